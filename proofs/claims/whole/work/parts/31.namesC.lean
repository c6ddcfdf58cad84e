theorem zo_inst : Cond.instanceMethod objectInit ∈ zz_WS := zz_in 73 (by decide +kernel) rfl
theorem zo_code : Cond.code objectInit ⟨#[0xb1]⟩ 1 none ∈ zz_WS := zz_in 74 (by decide +kernel) rfl
theorem zo_aI : Cond.arrayClass .int ∈ zz_WS := zz_in 91 (by decide +kernel) rfl
theorem zo_aZ : Cond.arrayClass .boolean ∈ zz_WS := zz_in 92 (by decide +kernel) rfl
theorem zo_aJ : Cond.arrayClass .long ∈ zz_WS := zz_in 1058 (by decide +kernel) rfl
def zero : St := fun _ _ => 0
abbrev zc_Me_init : ByteArray := prog_7_method_1_code
def zy_Me_init : MethodName := ⟨zR_Me, "<init>", "()V"⟩
theorem zic_Me_init : Cond.code zy_Me_init zc_Me_init 2 none ∈ zz_WS := zz_in 79 (by decide +kernel) rfl
theorem zii_Me_init : Cond.instanceMethod zy_Me_init ∈ zz_WS := zz_in 78 (by decide +kernel) rfl
theorem zij_Me_init : Cond.initialized zR_Me ∈ zz_WS := zz_in 49 (by decide +kernel) rfl
theorem zik_Me_init : Cond.instantiable zR_Me 3 ∈ zz_WS := zz_in 76 (by decide +kernel) rfl
theorem zd_Me_init_0 : decode zc_Me_init 0 = .ok (.aload_n 0, 1) := by decide +kernel
theorem zd_Me_init_1 : decode zc_Me_init 1 = .ok (.invokespecial 1, 3) := by decide +kernel
theorem zd_Me_init_4 : decode zc_Me_init 4 = .ok (.aload_n 0, 1) := by decide +kernel
theorem zd_Me_init_5 : decode zc_Me_init 5 = .ok (.sipush 256, 3) := by decide +kernel
theorem zd_Me_init_8 : decode zc_Me_init 8 = .ok (.newarray .int, 2) := by decide +kernel
theorem zd_Me_init_10 : decode zc_Me_init 10 = .ok (.putfield 9, 3) := by decide +kernel
theorem zd_Me_init_13 : decode zc_Me_init 13 = .ok (.aload_n 0, 1) := by decide +kernel
theorem zd_Me_init_14 : decode zc_Me_init 14 = .ok (.sipush 256, 3) := by decide +kernel
theorem zd_Me_init_17 : decode zc_Me_init 17 = .ok (.newarray .boolean, 2) := by decide +kernel
theorem zd_Me_init_19 : decode zc_Me_init 19 = .ok (.putfield 13, 3) := by decide +kernel
theorem zd_Me_init_22 : decode zc_Me_init 22 = .ok (.aload_n 0, 1) := by decide +kernel
theorem zd_Me_init_23 : decode zc_Me_init 23 = .ok (.sipush 256, 3) := by decide +kernel
theorem zd_Me_init_26 : decode zc_Me_init 26 = .ok (.newarray .boolean, 2) := by decide +kernel
theorem zd_Me_init_28 : decode zc_Me_init 28 = .ok (.putfield 17, 3) := by decide +kernel
theorem zd_Me_init_31 : decode zc_Me_init 31 = .ok (.iconst 0, 1) := by decide +kernel
theorem zd_Me_init_32 : decode zc_Me_init 32 = .ok (.istore_n 1, 1) := by decide +kernel
theorem zd_Me_init_33 : decode zc_Me_init 33 = .ok (.iload_n 1, 1) := by decide +kernel
theorem zd_Me_init_34 : decode zc_Me_init 34 = .ok (.bipush 64, 2) := by decide +kernel
theorem zd_Me_init_36 : decode zc_Me_init 36 = .ok (.if_icmp .ge 23, 3) := by decide +kernel
theorem zd_Me_init_39 : decode zc_Me_init 39 = .ok (.aload_n 0, 1) := by decide +kernel
theorem zd_Me_init_40 : decode zc_Me_init 40 = .ok (.getfield 13, 3) := by decide +kernel
theorem zd_Me_init_43 : decode zc_Me_init 43 = .ok (.iload_n 1, 1) := by decide +kernel
theorem zd_Me_init_44 : decode zc_Me_init 44 = .ok (.iconst 1, 1) := by decide +kernel
theorem zd_Me_init_45 : decode zc_Me_init 45 = .ok (.bastore, 1) := by decide +kernel
theorem zd_Me_init_46 : decode zc_Me_init 46 = .ok (.aload_n 0, 1) := by decide +kernel
theorem zd_Me_init_47 : decode zc_Me_init 47 = .ok (.getfield 17, 3) := by decide +kernel
theorem zd_Me_init_50 : decode zc_Me_init 50 = .ok (.iload_n 1, 1) := by decide +kernel
theorem zd_Me_init_51 : decode zc_Me_init 51 = .ok (.iconst 1, 1) := by decide +kernel
theorem zd_Me_init_52 : decode zc_Me_init 52 = .ok (.bastore, 1) := by decide +kernel
theorem zd_Me_init_53 : decode zc_Me_init 53 = .ok (.iinc 1 1, 3) := by decide +kernel
theorem zd_Me_init_56 : decode zc_Me_init 56 = .ok (.goto (-23), 3) := by decide +kernel
theorem zd_Me_init_59 : decode zc_Me_init 59 = .ok (.sipush 224, 3) := by decide +kernel
theorem zd_Me_init_62 : decode zc_Me_init 62 = .ok (.istore_n 1, 1) := by decide +kernel
theorem zd_Me_init_63 : decode zc_Me_init 63 = .ok (.iload_n 1, 1) := by decide +kernel
theorem zd_Me_init_64 : decode zc_Me_init 64 = .ok (.sipush 256, 3) := by decide +kernel
theorem zd_Me_init_67 : decode zc_Me_init 67 = .ok (.if_icmp .ge 16, 3) := by decide +kernel
theorem zd_Me_init_70 : decode zc_Me_init 70 = .ok (.aload_n 0, 1) := by decide +kernel
theorem zd_Me_init_71 : decode zc_Me_init 71 = .ok (.getfield 13, 3) := by decide +kernel
theorem zd_Me_init_74 : decode zc_Me_init 74 = .ok (.iload_n 1, 1) := by decide +kernel
theorem zd_Me_init_75 : decode zc_Me_init 75 = .ok (.iconst 1, 1) := by decide +kernel
theorem zd_Me_init_76 : decode zc_Me_init 76 = .ok (.bastore, 1) := by decide +kernel
theorem zd_Me_init_77 : decode zc_Me_init 77 = .ok (.iinc 1 1, 3) := by decide +kernel
theorem zd_Me_init_80 : decode zc_Me_init 80 = .ok (.goto (-17), 3) := by decide +kernel
theorem zd_Me_init_83 : decode zc_Me_init 83 = .ok (.return_, 1) := by decide +kernel
theorem zio_Me_init : Cond.methodLink zR_Me 1 objectInit ∈ zz_WS := zz_in 80 (by decide +kernel) rfl
theorem zif_Me_init_9 : Cond.fieldLink zR_Me 9 zR_Me "values" "[I" ∈ zz_WS := zz_in 81 (by decide +kernel) rfl
theorem zif_Me_init_13 : Cond.fieldLink zR_Me 13 zR_Me "open" "[Z" ∈ zz_WS := zz_in 82 (by decide +kernel) rfl
theorem zif_Me_init_17 : Cond.fieldLink zR_Me 17 zR_Me "known" "[Z" ∈ zz_WS := zz_in 83 (by decide +kernel) rfl
def zwC_Me (h0 : Nat) (u : UC) : va_W := [(h0, .inr (1, [.ref (u.1 0), .ref (u.1 1), .ref (u.1 2)])), (u.1 0, .inl (u.2.1, 256, .inl (u.2.2.2 0))), (u.1 1, .inl (u.2.2.1, 256, .inl (u.2.2.2 1))), (u.1 2, .inl (u.2.2.1, 256, .inl (u.2.2.2 2)))]
def wE (q : Nat → Nat) (cI cZ : ClassId) (σ : St) : va_W := [(q 0, .inr (1, [.ref (q 1), .ref (q 2), .ref (q 3)])),
  (q 1, .inl (cI, 256, .inl (σ 0))),
  (q 2, .inl (cZ, 256, .inl (σ 1))),
  (q 3, .inl (cZ, 256, .inl (σ 2)))]
section ZFE
variable {p : Program} {l : Launch} {e : Env} {R : Room} {s : State} {m : MethodId} {args : Array Value} {below : List Frame} {meth : Method} {c : Code} {H : Heap} {locs : List Loc} {cells slots : Nat} {Q : State → Prop} {cc : ByteArray} {pc : Nat} {ls : Array Slot} {rest : List Value} {D : va_G} {q : Nat → Nat} {cI cZ : ClassId} {A : Nat → Prop} {σ : St}
theorem zg_E_Me_values (hx : p.tables.exec = Jvm.exec) (hb : c.code = cc) (hts : ∀ w ∈ zz_WS, w.before args s = true) (hown : s.vm.findClass zR_Me = some m.cls) (X : zz_X D vwCl (zz_tys cI cZ) A s H locs (wE q cI cZ σ)) (hdg : decode cc pc = .ok (.getfield 9, 3)) (k : W p l e R s m args below meth c H locs cells slots Q (F0 m (pc + 3) ls (.ref (q 1) :: rest))) : W p l e R s m args below meth c H locs cells slots Q (F0 m pc ls (.ref (q 0) :: rest)) :=
  va_get (ci := 1) (v := .ref (q 1)) (C := zR_Me) (T := zT_Me) (N := 3) hx hb hts zi_Me hown X.1 X.2.1 0 rfl rfl 0 (by decide) (hts (.fieldLink zR_Me 9 zR_Me "values" "[I") (zz_in 81 (by decide +kernel) rfl)) (fun _ h9 => h9) rfl hdg k
theorem zg_E_Me_open (hx : p.tables.exec = Jvm.exec) (hb : c.code = cc) (hts : ∀ w ∈ zz_WS, w.before args s = true) (hown : s.vm.findClass zR_Me = some m.cls) (X : zz_X D vwCl (zz_tys cI cZ) A s H locs (wE q cI cZ σ)) (hdg : decode cc pc = .ok (.getfield 13, 3)) (k : W p l e R s m args below meth c H locs cells slots Q (F0 m (pc + 3) ls (.ref (q 2) :: rest))) : W p l e R s m args below meth c H locs cells slots Q (F0 m pc ls (.ref (q 0) :: rest)) :=
  va_get (ci := 1) (v := .ref (q 2)) (C := zR_Me) (T := zT_Me) (N := 3) hx hb hts zi_Me hown X.1 X.2.1 0 rfl rfl 1 (by decide) (hts (.fieldLink zR_Me 13 zR_Me "open" "[Z") (zz_in 82 (by decide +kernel) rfl)) (fun _ h9 => h9) rfl hdg k
theorem zg_E_Me_known (hx : p.tables.exec = Jvm.exec) (hb : c.code = cc) (hts : ∀ w ∈ zz_WS, w.before args s = true) (hown : s.vm.findClass zR_Me = some m.cls) (X : zz_X D vwCl (zz_tys cI cZ) A s H locs (wE q cI cZ σ)) (hdg : decode cc pc = .ok (.getfield 17, 3)) (k : W p l e R s m args below meth c H locs cells slots Q (F0 m (pc + 3) ls (.ref (q 3) :: rest))) : W p l e R s m args below meth c H locs cells slots Q (F0 m pc ls (.ref (q 0) :: rest)) :=
  va_get (ci := 1) (v := .ref (q 3)) (C := zR_Me) (T := zT_Me) (N := 3) hx hb hts zi_Me hown X.1 X.2.1 0 rfl rfl 2 (by decide) (hts (.fieldLink zR_Me 17 zR_Me "known" "[Z") (zz_in 83 (by decide +kernel) rfl)) (fun _ h9 => h9) rfl hdg k
theorem za_E_Me_values (hx : p.tables.exec = Jvm.exec) (hb : c.code = cc) (X : zz_X D vwCl (zz_tys cI cZ) A s H locs (wE q cI cZ σ)) {i : Int32} (hin : vp_in i 256) (hdg : decode cc pc = .ok (.iaload, 1)) (k : W p l e R s m args below meth c H locs cells slots Q (F0 m (pc + 1) ls (.int (σ 0 i.toNatClampNeg) :: rest))) : W p l e R s m args below meth c H locs cells slots Q (F0 m pc ls (.int i :: .ref (q 1) :: rest)) :=
  va_iald hx hb X.1 X.2.1 1 0 rfl rfl hin hdg k
theorem zs_E_Me_values (hx : p.tables.exec = Jvm.exec) (hb : c.code = cc) (X : zz_X D vwCl (zz_tys cI cZ) A s H locs (wE q cI cZ σ)) {i x : Int32} (hin : vp_in i 256) (hdg : decode cc pc = .ok (.iastore, 1)) (kk : ∀ (H : Heap) (locs : List Loc), zz_X D vwCl (zz_tys cI cZ) A s H locs (wE q cI cZ (zz_put σ 0 i.toNatClampNeg x)) → W p l e R s m args below meth c H locs cells slots Q (F0 m (pc + 1) ls rest)) : W p l e R s m args below meth c H locs cells slots Q (F0 m pc ls (.int x :: .int i :: .ref (q 1) :: rest)) :=
  va_iast hx hb X.1 X.2.1 X.2.2.1 X.2.2.2.1 1 0 rfl rfl hin hdg (fun H locs hP hD hS => kk H locs ⟨X.1, hP, hD, hS, X.2.2.2.2⟩)
theorem za_E_Me_open (hx : p.tables.exec = Jvm.exec) (hb : c.code = cc) (X : zz_X D vwCl (zz_tys cI cZ) A s H locs (wE q cI cZ σ)) {i : Int32} (hin : vp_in i 256) (hdg : decode cc pc = .ok (.baload, 1)) (k : W p l e R s m args below meth c H locs cells slots Q (F0 m (pc + 1) ls (.int (σ 1 i.toNatClampNeg) :: rest))) : W p l e R s m args below meth c H locs cells slots Q (F0 m pc ls (.int i :: .ref (q 2) :: rest)) :=
  va_zald hx hb X.1 X.2.1 2 1 rfl rfl hin hdg k
theorem zs_E_Me_open (hx : p.tables.exec = Jvm.exec) (hb : c.code = cc) (X : zz_X D vwCl (zz_tys cI cZ) A s H locs (wE q cI cZ σ)) {i x : Int32} (hin : vp_in i 256) (hdg : decode cc pc = .ok (.bastore, 1)) (kk : ∀ (H : Heap) (locs : List Loc), zz_X D vwCl (zz_tys cI cZ) A s H locs (wE q cI cZ (zz_put σ 1 i.toNatClampNeg (vp_nar .boolean x))) → W p l e R s m args below meth c H locs cells slots Q (F0 m (pc + 1) ls rest)) : W p l e R s m args below meth c H locs cells slots Q (F0 m pc ls (.int x :: .int i :: .ref (q 2) :: rest)) :=
  va_zast hx hb X.1 X.2.1 X.2.2.1 X.2.2.2.1 2 1 rfl rfl hin hdg (fun H locs hP hD hS => kk H locs ⟨X.1, hP, hD, hS, X.2.2.2.2⟩)
theorem za_E_Me_known (hx : p.tables.exec = Jvm.exec) (hb : c.code = cc) (X : zz_X D vwCl (zz_tys cI cZ) A s H locs (wE q cI cZ σ)) {i : Int32} (hin : vp_in i 256) (hdg : decode cc pc = .ok (.baload, 1)) (k : W p l e R s m args below meth c H locs cells slots Q (F0 m (pc + 1) ls (.int (σ 2 i.toNatClampNeg) :: rest))) : W p l e R s m args below meth c H locs cells slots Q (F0 m pc ls (.int i :: .ref (q 3) :: rest)) :=
  va_zald hx hb X.1 X.2.1 3 1 rfl rfl hin hdg k
theorem zs_E_Me_known (hx : p.tables.exec = Jvm.exec) (hb : c.code = cc) (X : zz_X D vwCl (zz_tys cI cZ) A s H locs (wE q cI cZ σ)) {i x : Int32} (hin : vp_in i 256) (hdg : decode cc pc = .ok (.bastore, 1)) (kk : ∀ (H : Heap) (locs : List Loc), zz_X D vwCl (zz_tys cI cZ) A s H locs (wE q cI cZ (zz_put σ 2 i.toNatClampNeg (vp_nar .boolean x))) → W p l e R s m args below meth c H locs cells slots Q (F0 m (pc + 1) ls rest)) : W p l e R s m args below meth c H locs cells slots Q (F0 m pc ls (.int x :: .int i :: .ref (q 3) :: rest)) :=
  va_zast hx hb X.1 X.2.1 X.2.2.1 X.2.2.2.1 3 1 rfl rfl hin hdg (fun H locs hP hD hS => kk H locs ⟨X.1, hP, hD, hS, X.2.2.2.2⟩)
end ZFE
def zm_Me_init : Room := { frames := 1, cells := 3, slots := 768, locals := 12 }
abbrev zc_Re_init : ByteArray := prog_10_method_1_code
def zy_Re_init : MethodName := ⟨zR_Re, "<init>", "()V"⟩
theorem zic_Re_init : Cond.code zy_Re_init zc_Re_init 1 none ∈ zz_WS := zz_in 97 (by decide +kernel) rfl
theorem zii_Re_init : Cond.instanceMethod zy_Re_init ∈ zz_WS := zz_in 96 (by decide +kernel) rfl
theorem zij_Re_init : Cond.initialized zR_Re ∈ zz_WS := zz_in 50 (by decide +kernel) rfl
theorem zik_Re_init : Cond.instantiable zR_Re 2 ∈ zz_WS := zz_in 94 (by decide +kernel) rfl
theorem zd_Re_init_0 : decode zc_Re_init 0 = .ok (.aload_n 0, 1) := by decide +kernel
theorem zd_Re_init_1 : decode zc_Re_init 1 = .ok (.invokespecial 1, 3) := by decide +kernel
theorem zd_Re_init_4 : decode zc_Re_init 4 = .ok (.aload_n 0, 1) := by decide +kernel
theorem zd_Re_init_5 : decode zc_Re_init 5 = .ok (.bipush 8, 2) := by decide +kernel
theorem zd_Re_init_7 : decode zc_Re_init 7 = .ok (.newarray .int, 2) := by decide +kernel
theorem zd_Re_init_9 : decode zc_Re_init 9 = .ok (.putfield 9, 3) := by decide +kernel
theorem zd_Re_init_12 : decode zc_Re_init 12 = .ok (.aload_n 0, 1) := by decide +kernel
theorem zd_Re_init_13 : decode zc_Re_init 13 = .ok (.bipush 8, 2) := by decide +kernel
theorem zd_Re_init_15 : decode zc_Re_init 15 = .ok (.newarray .int, 2) := by decide +kernel
theorem zd_Re_init_17 : decode zc_Re_init 17 = .ok (.putfield 13, 3) := by decide +kernel
theorem zd_Re_init_20 : decode zc_Re_init 20 = .ok (.aload_n 0, 1) := by decide +kernel
theorem zd_Re_init_21 : decode zc_Re_init 21 = .ok (.invokevirtual 16, 3) := by decide +kernel
theorem zd_Re_init_24 : decode zc_Re_init 24 = .ok (.return_, 1) := by decide +kernel
theorem zio_Re_init : Cond.methodLink zR_Re 1 objectInit ∈ zz_WS := zz_in 98 (by decide +kernel) rfl
theorem zif_Re_init_9 : Cond.fieldLink zR_Re 9 zR_Re "values" "[I" ∈ zz_WS := zz_in 103 (by decide +kernel) rfl
theorem zif_Re_init_13 : Cond.fieldLink zR_Re 13 zR_Re "known" "[I" ∈ zz_WS := zz_in 104 (by decide +kernel) rfl
def zwC_Re (h0 : Nat) (u : UC) : va_W := [(h0, .inr (2, [.ref (u.1 0), .ref (u.1 1)])), (u.1 0, .inl (u.2.1, 8, .inl (u.2.2.2 3))), (u.1 1, .inl (u.2.1, 8, .inl (u.2.2.2 4)))]
def wG (q : Nat → Nat) (cI cZ : ClassId) (σ : St) : va_W := [(q 0, .inr (2, [.ref (q 1), .ref (q 2)])),
  (q 1, .inl (cI, 8, .inl (σ 0))),
  (q 2, .inl (cI, 8, .inl (σ 1)))]
section ZFG
variable {p : Program} {l : Launch} {e : Env} {R : Room} {s : State} {m : MethodId} {args : Array Value} {below : List Frame} {meth : Method} {c : Code} {H : Heap} {locs : List Loc} {cells slots : Nat} {Q : State → Prop} {cc : ByteArray} {pc : Nat} {ls : Array Slot} {rest : List Value} {D : va_G} {q : Nat → Nat} {cI cZ : ClassId} {A : Nat → Prop} {σ : St}
theorem zg_G_Re_values (hx : p.tables.exec = Jvm.exec) (hb : c.code = cc) (hts : ∀ w ∈ zz_WS, w.before args s = true) (hown : s.vm.findClass zR_Re = some m.cls) (X : zz_X D vwCl [(cI, .int)] A s H locs (wG q cI cZ σ)) (hdg : decode cc pc = .ok (.getfield 9, 3)) (k : W p l e R s m args below meth c H locs cells slots Q (F0 m (pc + 3) ls (.ref (q 1) :: rest))) : W p l e R s m args below meth c H locs cells slots Q (F0 m pc ls (.ref (q 0) :: rest)) :=
  va_get (ci := 2) (v := .ref (q 1)) (C := zR_Re) (T := zT_Re) (N := 2) hx hb hts zi_Re hown X.1 X.2.1 0 rfl rfl 0 (by decide) (hts (.fieldLink zR_Re 9 zR_Re "values" "[I") (zz_in 103 (by decide +kernel) rfl)) (fun _ h9 => h9) rfl hdg k
theorem zg_G_Re_known (hx : p.tables.exec = Jvm.exec) (hb : c.code = cc) (hts : ∀ w ∈ zz_WS, w.before args s = true) (hown : s.vm.findClass zR_Re = some m.cls) (X : zz_X D vwCl [(cI, .int)] A s H locs (wG q cI cZ σ)) (hdg : decode cc pc = .ok (.getfield 13, 3)) (k : W p l e R s m args below meth c H locs cells slots Q (F0 m (pc + 3) ls (.ref (q 2) :: rest))) : W p l e R s m args below meth c H locs cells slots Q (F0 m pc ls (.ref (q 0) :: rest)) :=
  va_get (ci := 2) (v := .ref (q 2)) (C := zR_Re) (T := zT_Re) (N := 2) hx hb hts zi_Re hown X.1 X.2.1 0 rfl rfl 1 (by decide) (hts (.fieldLink zR_Re 13 zR_Re "known" "[I") (zz_in 104 (by decide +kernel) rfl)) (fun _ h9 => h9) rfl hdg k
theorem za_G_Re_values (hx : p.tables.exec = Jvm.exec) (hb : c.code = cc) (X : zz_X D vwCl [(cI, .int)] A s H locs (wG q cI cZ σ)) {i : Int32} (hin : vp_in i 8) (hdg : decode cc pc = .ok (.iaload, 1)) (k : W p l e R s m args below meth c H locs cells slots Q (F0 m (pc + 1) ls (.int (σ 0 i.toNatClampNeg) :: rest))) : W p l e R s m args below meth c H locs cells slots Q (F0 m pc ls (.int i :: .ref (q 1) :: rest)) :=
  va_iald hx hb X.1 X.2.1 1 0 rfl rfl hin hdg k
theorem zs_G_Re_values (hx : p.tables.exec = Jvm.exec) (hb : c.code = cc) (X : zz_X D vwCl [(cI, .int)] A s H locs (wG q cI cZ σ)) {i x : Int32} (hin : vp_in i 8) (hdg : decode cc pc = .ok (.iastore, 1)) (kk : ∀ (H : Heap) (locs : List Loc), zz_X D vwCl [(cI, .int)] A s H locs (wG q cI cZ (zz_put σ 0 i.toNatClampNeg x)) → W p l e R s m args below meth c H locs cells slots Q (F0 m (pc + 1) ls rest)) : W p l e R s m args below meth c H locs cells slots Q (F0 m pc ls (.int x :: .int i :: .ref (q 1) :: rest)) :=
  va_iast hx hb X.1 X.2.1 X.2.2.1 X.2.2.2.1 1 0 rfl rfl hin hdg (fun H locs hP hD hS => kk H locs ⟨X.1, hP, hD, hS, X.2.2.2.2⟩)
theorem za_G_Re_known (hx : p.tables.exec = Jvm.exec) (hb : c.code = cc) (X : zz_X D vwCl [(cI, .int)] A s H locs (wG q cI cZ σ)) {i : Int32} (hin : vp_in i 8) (hdg : decode cc pc = .ok (.iaload, 1)) (k : W p l e R s m args below meth c H locs cells slots Q (F0 m (pc + 1) ls (.int (σ 1 i.toNatClampNeg) :: rest))) : W p l e R s m args below meth c H locs cells slots Q (F0 m pc ls (.int i :: .ref (q 2) :: rest)) :=
  va_iald hx hb X.1 X.2.1 2 0 rfl rfl hin hdg k
theorem zs_G_Re_known (hx : p.tables.exec = Jvm.exec) (hb : c.code = cc) (X : zz_X D vwCl [(cI, .int)] A s H locs (wG q cI cZ σ)) {i x : Int32} (hin : vp_in i 8) (hdg : decode cc pc = .ok (.iastore, 1)) (kk : ∀ (H : Heap) (locs : List Loc), zz_X D vwCl [(cI, .int)] A s H locs (wG q cI cZ (zz_put σ 1 i.toNatClampNeg x)) → W p l e R s m args below meth c H locs cells slots Q (F0 m (pc + 1) ls rest)) : W p l e R s m args below meth c H locs cells slots Q (F0 m pc ls (.int x :: .int i :: .ref (q 2) :: rest)) :=
  va_iast hx hb X.1 X.2.1 X.2.2.1 X.2.2.2.1 2 0 rfl rfl hin hdg (fun H locs hP hD hS => kk H locs ⟨X.1, hP, hD, hS, X.2.2.2.2⟩)
end ZFG
theorem zl_Re_16 : Cond.methodLink zR_Re 16 zy_Re_clear ∈ zz_WS := zz_in 99 (by decide +kernel) rfl
def zm_Re_init : Room := { frames := 1, cells := 2, slots := 16, locals := 21 }
abbrev zc_Pr_init : ByteArray := prog_9_method_1_code
def zy_Pr_init : MethodName := ⟨zR_Pr, "<init>", "()V"⟩
theorem zic_Pr_init : Cond.code zy_Pr_init zc_Pr_init 1 none ∈ zz_WS := zz_in 114 (by decide +kernel) rfl
theorem zii_Pr_init : Cond.instanceMethod zy_Pr_init ∈ zz_WS := zz_in 113 (by decide +kernel) rfl
theorem zij_Pr_init : Cond.initialized zR_Pr ∈ zz_WS := zz_in 51 (by decide +kernel) rfl
theorem zik_Pr_init : Cond.instantiable zR_Pr 5 ∈ zz_WS := zz_in 111 (by decide +kernel) rfl
theorem zd_Pr_init_0 : decode zc_Pr_init 0 = .ok (.aload_n 0, 1) := by decide +kernel
theorem zd_Pr_init_1 : decode zc_Pr_init 1 = .ok (.invokespecial 3, 3) := by decide +kernel
theorem zd_Pr_init_4 : decode zc_Pr_init 4 = .ok (.aload_n 0, 1) := by decide +kernel
theorem zd_Pr_init_5 : decode zc_Pr_init 5 = .ok (.bipush 32, 2) := by decide +kernel
theorem zd_Pr_init_7 : decode zc_Pr_init 7 = .ok (.newarray .int, 2) := by decide +kernel
theorem zd_Pr_init_9 : decode zc_Pr_init 9 = .ok (.putfield 9, 3) := by decide +kernel
theorem zd_Pr_init_12 : decode zc_Pr_init 12 = .ok (.aload_n 0, 1) := by decide +kernel
theorem zd_Pr_init_13 : decode zc_Pr_init 13 = .ok (.bipush 32, 2) := by decide +kernel
theorem zd_Pr_init_15 : decode zc_Pr_init 15 = .ok (.newarray .int, 2) := by decide +kernel
theorem zd_Pr_init_17 : decode zc_Pr_init 17 = .ok (.putfield 13, 3) := by decide +kernel
theorem zd_Pr_init_20 : decode zc_Pr_init 20 = .ok (.aload_n 0, 1) := by decide +kernel
theorem zd_Pr_init_21 : decode zc_Pr_init 21 = .ok (.bipush 32, 2) := by decide +kernel
theorem zd_Pr_init_23 : decode zc_Pr_init 23 = .ok (.newarray .int, 2) := by decide +kernel
theorem zd_Pr_init_25 : decode zc_Pr_init 25 = .ok (.putfield 16, 3) := by decide +kernel
theorem zd_Pr_init_28 : decode zc_Pr_init 28 = .ok (.aload_n 0, 1) := by decide +kernel
theorem zd_Pr_init_29 : decode zc_Pr_init 29 = .ok (.bipush 32, 2) := by decide +kernel
theorem zd_Pr_init_31 : decode zc_Pr_init 31 = .ok (.newarray .int, 2) := by decide +kernel
theorem zd_Pr_init_33 : decode zc_Pr_init 33 = .ok (.putfield 19, 3) := by decide +kernel
theorem zd_Pr_init_36 : decode zc_Pr_init 36 = .ok (.aload_n 0, 1) := by decide +kernel
theorem zd_Pr_init_37 : decode zc_Pr_init 37 = .ok (.bipush 32, 2) := by decide +kernel
theorem zd_Pr_init_39 : decode zc_Pr_init 39 = .ok (.newarray .int, 2) := by decide +kernel
theorem zd_Pr_init_41 : decode zc_Pr_init 41 = .ok (.putfield 22, 3) := by decide +kernel
theorem zd_Pr_init_44 : decode zc_Pr_init 44 = .ok (.return_, 1) := by decide +kernel
theorem zio_Pr_init : Cond.methodLink zR_Pr 3 objectInit ∈ zz_WS := zz_in 115 (by decide +kernel) rfl
theorem zif_Pr_init_9 : Cond.fieldLink zR_Pr 9 zR_Pr "ops" "[I" ∈ zz_WS := zz_in 116 (by decide +kernel) rfl
theorem zif_Pr_init_13 : Cond.fieldLink zR_Pr 13 zR_Pr "targets" "[I" ∈ zz_WS := zz_in 117 (by decide +kernel) rfl
theorem zif_Pr_init_16 : Cond.fieldLink zR_Pr 16 zR_Pr "firsts" "[I" ∈ zz_WS := zz_in 118 (by decide +kernel) rfl
theorem zif_Pr_init_19 : Cond.fieldLink zR_Pr 19 zR_Pr "seconds" "[I" ∈ zz_WS := zz_in 119 (by decide +kernel) rfl
theorem zif_Pr_init_22 : Cond.fieldLink zR_Pr 22 zR_Pr "numbers" "[I" ∈ zz_WS := zz_in 120 (by decide +kernel) rfl
def zwC_Pr (h0 : Nat) (u : UC) : va_W := [(h0, .inr (3, [.ref (u.1 0), .ref (u.1 1), .ref (u.1 2), .ref (u.1 3), .ref (u.1 4)])), (u.1 0, .inl (u.2.1, 32, .inl (u.2.2.2 5))), (u.1 1, .inl (u.2.1, 32, .inl (u.2.2.2 6))), (u.1 2, .inl (u.2.1, 32, .inl (u.2.2.2 7))), (u.1 3, .inl (u.2.1, 32, .inl (u.2.2.2 8))), (u.1 4, .inl (u.2.1, 32, .inl (u.2.2.2 9)))]
def zm_Pr_init : Room := { frames := 1, cells := 5, slots := 160, locals := 12 }
abbrev zc_Pi_init : ByteArray := prog_8_method_1_code
def zy_Pi_init : MethodName := ⟨zR_Pi, "<init>", "(LShadowWarden$Program;)V"⟩
theorem zic_Pi_init : Cond.code zy_Pi_init zc_Pi_init 2 none ∈ zz_WS := zz_in 136 (by decide +kernel) rfl
theorem zii_Pi_init : Cond.instanceMethod zy_Pi_init ∈ zz_WS := zz_in 135 (by decide +kernel) rfl
theorem zij_Pi_init : Cond.initialized zR_Pi ∈ zz_WS := zz_in 52 (by decide +kernel) rfl
theorem zik_Pi_init : Cond.instantiable zR_Pi 4 ∈ zz_WS := zz_in 133 (by decide +kernel) rfl
theorem zd_Pi_init_0 : decode zc_Pi_init 0 = .ok (.aload_n 0, 1) := by decide +kernel
theorem zd_Pi_init_1 : decode zc_Pi_init 1 = .ok (.invokespecial 1, 3) := by decide +kernel
theorem zd_Pi_init_4 : decode zc_Pi_init 4 = .ok (.aload_n 0, 1) := by decide +kernel
theorem zd_Pi_init_5 : decode zc_Pi_init 5 = .ok (.aload_n 1, 1) := by decide +kernel
theorem zd_Pi_init_6 : decode zc_Pi_init 6 = .ok (.putfield 7, 3) := by decide +kernel
theorem zd_Pi_init_9 : decode zc_Pi_init 9 = .ok (.aload_n 0, 1) := by decide +kernel
theorem zd_Pi_init_10 : decode zc_Pi_init 10 = .ok (.bipush 32, 2) := by decide +kernel
theorem zd_Pi_init_12 : decode zc_Pi_init 12 = .ok (.newarray .int, 2) := by decide +kernel
theorem zd_Pi_init_14 : decode zc_Pi_init 14 = .ok (.putfield 15, 3) := by decide +kernel
theorem zd_Pi_init_17 : decode zc_Pi_init 17 = .ok (.return_, 1) := by decide +kernel
theorem zio_Pi_init : Cond.methodLink zR_Pi 1 objectInit ∈ zz_WS := zz_in 137 (by decide +kernel) rfl
theorem zif_Pi_init_7 : Cond.fieldLink zR_Pi 7 zR_Pi "program" "LShadowWarden$Program;" ∈ zz_WS := zz_in 138 (by decide +kernel) rfl
theorem zif_Pi_init_15 : Cond.fieldLink zR_Pi 15 zR_Pi "lengths" "[I" ∈ zz_WS := zz_in 139 (by decide +kernel) rfl
def zwC_Pi (h0 h1 : Nat) (u : UC) : va_W := [(h0, .inr (4, [.ref h1, .ref (u.1 0), .int (u.2.2.2 11 0), .int (u.2.2.2 12 0)])), (u.1 0, .inl (u.2.1, 32, .inl (u.2.2.2 10)))]
def zm_Pi_init : Room := { frames := 1, cells := 1, slots := 32, locals := 12 }
abbrev zc_Fi_init : ByteArray := prog_2_method_1_code
def zy_Fi_init : MethodName := ⟨zR_Fi, "<init>", "()V"⟩
theorem zic_Fi_init : Cond.code zy_Fi_init zc_Fi_init 1 none ∈ zz_WS := zz_in 155 (by decide +kernel) rfl
theorem zii_Fi_init : Cond.instanceMethod zy_Fi_init ∈ zz_WS := zz_in 154 (by decide +kernel) rfl
theorem zij_Fi_init : Cond.initialized zR_Fi ∈ zz_WS := zz_in 53 (by decide +kernel) rfl
theorem zik_Fi_init : Cond.instantiable zR_Fi 5 ∈ zz_WS := zz_in 152 (by decide +kernel) rfl
theorem zd_Fi_init_0 : decode zc_Fi_init 0 = .ok (.aload_n 0, 1) := by decide +kernel
theorem zd_Fi_init_1 : decode zc_Fi_init 1 = .ok (.invokespecial 1, 3) := by decide +kernel
theorem zd_Fi_init_4 : decode zc_Fi_init 4 = .ok (.aload_n 0, 1) := by decide +kernel
theorem zd_Fi_init_5 : decode zc_Fi_init 5 = .ok (.bipush 24, 2) := by decide +kernel
theorem zd_Fi_init_7 : decode zc_Fi_init 7 = .ok (.newarray .int, 2) := by decide +kernel
theorem zd_Fi_init_9 : decode zc_Fi_init 9 = .ok (.putfield 9, 3) := by decide +kernel
theorem zd_Fi_init_12 : decode zc_Fi_init 12 = .ok (.aload_n 0, 1) := by decide +kernel
theorem zd_Fi_init_13 : decode zc_Fi_init 13 = .ok (.bipush 24, 2) := by decide +kernel
theorem zd_Fi_init_15 : decode zc_Fi_init 15 = .ok (.newarray .int, 2) := by decide +kernel
theorem zd_Fi_init_17 : decode zc_Fi_init 17 = .ok (.putfield 13, 3) := by decide +kernel
theorem zd_Fi_init_20 : decode zc_Fi_init 20 = .ok (.aload_n 0, 1) := by decide +kernel
theorem zd_Fi_init_21 : decode zc_Fi_init 21 = .ok (.bipush 24, 2) := by decide +kernel
theorem zd_Fi_init_23 : decode zc_Fi_init 23 = .ok (.newarray .int, 2) := by decide +kernel
theorem zd_Fi_init_25 : decode zc_Fi_init 25 = .ok (.putfield 16, 3) := by decide +kernel
theorem zd_Fi_init_28 : decode zc_Fi_init 28 = .ok (.aload_n 0, 1) := by decide +kernel
theorem zd_Fi_init_29 : decode zc_Fi_init 29 = .ok (.bipush 24, 2) := by decide +kernel
theorem zd_Fi_init_31 : decode zc_Fi_init 31 = .ok (.newarray .int, 2) := by decide +kernel
theorem zd_Fi_init_33 : decode zc_Fi_init 33 = .ok (.putfield 19, 3) := by decide +kernel
theorem zd_Fi_init_36 : decode zc_Fi_init 36 = .ok (.return_, 1) := by decide +kernel
theorem zio_Fi_init : Cond.methodLink zR_Fi 1 objectInit ∈ zz_WS := zz_in 156 (by decide +kernel) rfl
theorem zif_Fi_init_9 : Cond.fieldLink zR_Fi 9 zR_Fi "kinds" "[I" ∈ zz_WS := zz_in 157 (by decide +kernel) rfl
theorem zif_Fi_init_13 : Cond.fieldLink zR_Fi 13 zR_Fi "instructions" "[I" ∈ zz_WS := zz_in 158 (by decide +kernel) rfl
theorem zif_Fi_init_16 : Cond.fieldLink zR_Fi 16 zR_Fi "addresses" "[I" ∈ zz_WS := zz_in 159 (by decide +kernel) rfl
theorem zif_Fi_init_19 : Cond.fieldLink zR_Fi 19 zR_Fi "times" "[I" ∈ zz_WS := zz_in 160 (by decide +kernel) rfl
def zwC_Fi (h0 : Nat) (u : UC) : va_W := [(h0, .inr (5, [.ref (u.1 0), .ref (u.1 1), .ref (u.1 2), .ref (u.1 3), .int (u.2.2.2 17 0)])), (u.1 0, .inl (u.2.1, 24, .inl (u.2.2.2 13))), (u.1 1, .inl (u.2.1, 24, .inl (u.2.2.2 14))), (u.1 2, .inl (u.2.1, 24, .inl (u.2.2.2 15))), (u.1 3, .inl (u.2.1, 24, .inl (u.2.2.2 16)))]
def zm_Fi_init : Room := { frames := 1, cells := 4, slots := 96, locals := 12 }
abbrev zc_He_init : ByteArray := prog_3_method_1_code
def zy_He_init : MethodName := ⟨zR_He, "<init>", "(LShadowWarden$Memory;)V"⟩
theorem zic_He_init : Cond.code zy_He_init zc_He_init 2 none ∈ zz_WS := zz_in 177 (by decide +kernel) rfl
theorem zii_He_init : Cond.instanceMethod zy_He_init ∈ zz_WS := zz_in 176 (by decide +kernel) rfl
theorem zij_He_init : Cond.initialized zR_He ∈ zz_WS := zz_in 54 (by decide +kernel) rfl
theorem zik_He_init : Cond.instantiable zR_He 9 ∈ zz_WS := zz_in 174 (by decide +kernel) rfl
theorem zd_He_init_0 : decode zc_He_init 0 = .ok (.aload_n 0, 1) := by decide +kernel
theorem zd_He_init_1 : decode zc_He_init 1 = .ok (.invokespecial 1, 3) := by decide +kernel
theorem zd_He_init_4 : decode zc_He_init 4 = .ok (.aload_n 0, 1) := by decide +kernel
theorem zd_He_init_5 : decode zc_He_init 5 = .ok (.aload_n 1, 1) := by decide +kernel
theorem zd_He_init_6 : decode zc_He_init 6 = .ok (.putfield 7, 3) := by decide +kernel
theorem zd_He_init_9 : decode zc_He_init 9 = .ok (.aload_n 0, 1) := by decide +kernel
theorem zd_He_init_10 : decode zc_He_init 10 = .ok (.bipush 10, 2) := by decide +kernel
theorem zd_He_init_12 : decode zc_He_init 12 = .ok (.newarray .int, 2) := by decide +kernel
theorem zd_He_init_14 : decode zc_He_init 14 = .ok (.putfield 13, 3) := by decide +kernel
theorem zd_He_init_17 : decode zc_He_init 17 = .ok (.aload_n 0, 1) := by decide +kernel
theorem zd_He_init_18 : decode zc_He_init 18 = .ok (.bipush 10, 2) := by decide +kernel
theorem zd_He_init_20 : decode zc_He_init 20 = .ok (.newarray .int, 2) := by decide +kernel
theorem zd_He_init_22 : decode zc_He_init 22 = .ok (.putfield 17, 3) := by decide +kernel
theorem zd_He_init_25 : decode zc_He_init 25 = .ok (.aload_n 0, 1) := by decide +kernel
theorem zd_He_init_26 : decode zc_He_init 26 = .ok (.bipush 10, 2) := by decide +kernel
theorem zd_He_init_28 : decode zc_He_init 28 = .ok (.newarray .int, 2) := by decide +kernel
theorem zd_He_init_30 : decode zc_He_init 30 = .ok (.putfield 20, 3) := by decide +kernel
theorem zd_He_init_33 : decode zc_He_init 33 = .ok (.aload_n 0, 1) := by decide +kernel
theorem zd_He_init_34 : decode zc_He_init 34 = .ok (.bipush 10, 2) := by decide +kernel
theorem zd_He_init_36 : decode zc_He_init 36 = .ok (.newarray .int, 2) := by decide +kernel
theorem zd_He_init_38 : decode zc_He_init 38 = .ok (.putfield 23, 3) := by decide +kernel
theorem zd_He_init_41 : decode zc_He_init 41 = .ok (.aload_n 0, 1) := by decide +kernel
theorem zd_He_init_42 : decode zc_He_init 42 = .ok (.bipush 10, 2) := by decide +kernel
theorem zd_He_init_44 : decode zc_He_init 44 = .ok (.newarray .int, 2) := by decide +kernel
theorem zd_He_init_46 : decode zc_He_init 46 = .ok (.putfield 26, 3) := by decide +kernel
theorem zd_He_init_49 : decode zc_He_init 49 = .ok (.return_, 1) := by decide +kernel
theorem zio_He_init : Cond.methodLink zR_He 1 objectInit ∈ zz_WS := zz_in 178 (by decide +kernel) rfl
theorem zif_He_init_7 : Cond.fieldLink zR_He 7 zR_He "bytes" "LShadowWarden$Memory;" ∈ zz_WS := zz_in 179 (by decide +kernel) rfl
theorem zif_He_init_13 : Cond.fieldLink zR_He 13 zR_He "numbers" "[I" ∈ zz_WS := zz_in 180 (by decide +kernel) rfl
theorem zif_He_init_17 : Cond.fieldLink zR_He 17 zR_He "addresses" "[I" ∈ zz_WS := zz_in 181 (by decide +kernel) rfl
theorem zif_He_init_20 : Cond.fieldLink zR_He 20 zR_He "sizes" "[I" ∈ zz_WS := zz_in 182 (by decide +kernel) rfl
theorem zif_He_init_23 : Cond.fieldLink zR_He 23 zR_He "wallEnds" "[I" ∈ zz_WS := zz_in 183 (by decide +kernel) rfl
theorem zif_He_init_26 : Cond.fieldLink zR_He 26 zR_He "restingSince" "[I" ∈ zz_WS := zz_in 184 (by decide +kernel) rfl
def zwC_He (h0 h1 : Nat) (u : UC) : va_W := [(h0, .inr (6, [.ref h1, .ref (u.1 0), .ref (u.1 1), .ref (u.1 2), .ref (u.1 3), .ref (u.1 4), .int (u.2.2.2 23 0), .int (u.2.2.2 24 0), .int (u.2.2.2 25 0)])), (u.1 0, .inl (u.2.1, 10, .inl (u.2.2.2 18))), (u.1 1, .inl (u.2.1, 10, .inl (u.2.2.2 19))), (u.1 2, .inl (u.2.1, 10, .inl (u.2.2.2 20))), (u.1 3, .inl (u.2.1, 10, .inl (u.2.2.2 21))), (u.1 4, .inl (u.2.1, 10, .inl (u.2.2.2 22)))]
def zm_He_init : Room := { frames := 1, cells := 5, slots := 50, locals := 12 }
abbrev zc_LS_init : ByteArray := prog_5_method_1_code
def zy_LS_init : MethodName := ⟨zR_LS, "<init>", "(LShadowWarden$Memory;LShadowWarden$Registers;LShadowWarden$Heap;)V"⟩
theorem zic_LS_init : Cond.code zy_LS_init zc_LS_init 4 none ∈ zz_WS := zz_in 211 (by decide +kernel) rfl
theorem zii_LS_init : Cond.instanceMethod zy_LS_init ∈ zz_WS := zz_in 210 (by decide +kernel) rfl
theorem zij_LS_init : Cond.initialized zR_LS ∈ zz_WS := zz_in 55 (by decide +kernel) rfl
theorem zik_LS_init : Cond.instantiable zR_LS 6 ∈ zz_WS := zz_in 208 (by decide +kernel) rfl
theorem zd_LS_init_0 : decode zc_LS_init 0 = .ok (.aload_n 0, 1) := by decide +kernel
theorem zd_LS_init_1 : decode zc_LS_init 1 = .ok (.invokespecial 1, 3) := by decide +kernel
theorem zd_LS_init_4 : decode zc_LS_init 4 = .ok (.aload_n 0, 1) := by decide +kernel
theorem zd_LS_init_5 : decode zc_LS_init 5 = .ok (.aload_n 1, 1) := by decide +kernel
theorem zd_LS_init_6 : decode zc_LS_init 6 = .ok (.putfield 7, 3) := by decide +kernel
theorem zd_LS_init_9 : decode zc_LS_init 9 = .ok (.aload_n 0, 1) := by decide +kernel
theorem zd_LS_init_10 : decode zc_LS_init 10 = .ok (.aload_n 2, 1) := by decide +kernel
theorem zd_LS_init_11 : decode zc_LS_init 11 = .ok (.putfield 13, 3) := by decide +kernel
theorem zd_LS_init_14 : decode zc_LS_init 14 = .ok (.aload_n 0, 1) := by decide +kernel
theorem zd_LS_init_15 : decode zc_LS_init 15 = .ok (.aload_n 3, 1) := by decide +kernel
theorem zd_LS_init_16 : decode zc_LS_init 16 = .ok (.putfield 17, 3) := by decide +kernel
theorem zd_LS_init_19 : decode zc_LS_init 19 = .ok (.aload_n 0, 1) := by decide +kernel
theorem zd_LS_init_20 : decode zc_LS_init 20 = .ok (.bipush 10, 2) := by decide +kernel
theorem zd_LS_init_22 : decode zc_LS_init 22 = .ok (.newarray .int, 2) := by decide +kernel
theorem zd_LS_init_24 : decode zc_LS_init 24 = .ok (.putfield 23, 3) := by decide +kernel
theorem zd_LS_init_27 : decode zc_LS_init 27 = .ok (.aload_n 0, 1) := by decide +kernel
theorem zd_LS_init_28 : decode zc_LS_init 28 = .ok (.bipush 10, 2) := by decide +kernel
theorem zd_LS_init_30 : decode zc_LS_init 30 = .ok (.newarray .int, 2) := by decide +kernel
theorem zd_LS_init_32 : decode zc_LS_init 32 = .ok (.putfield 27, 3) := by decide +kernel
theorem zd_LS_init_35 : decode zc_LS_init 35 = .ok (.return_, 1) := by decide +kernel
theorem zio_LS_init : Cond.methodLink zR_LS 1 objectInit ∈ zz_WS := zz_in 212 (by decide +kernel) rfl
theorem zif_LS_init_7 : Cond.fieldLink zR_LS 7 zR_LS "bytes" "LShadowWarden$Memory;" ∈ zz_WS := zz_in 213 (by decide +kernel) rfl
theorem zif_LS_init_13 : Cond.fieldLink zR_LS 13 zR_LS "registers" "LShadowWarden$Registers;" ∈ zz_WS := zz_in 214 (by decide +kernel) rfl
theorem zif_LS_init_17 : Cond.fieldLink zR_LS 17 zR_LS "heap" "LShadowWarden$Heap;" ∈ zz_WS := zz_in 215 (by decide +kernel) rfl
theorem zif_LS_init_23 : Cond.fieldLink zR_LS 23 zR_LS "verdicts" "[I" ∈ zz_WS := zz_in 216 (by decide +kernel) rfl
theorem zif_LS_init_27 : Cond.fieldLink zR_LS 27 zR_LS "found" "[I" ∈ zz_WS := zz_in 217 (by decide +kernel) rfl
def zwC_LS (h0 h1 h2 h3 : Nat) (u : UC) : va_W := [(h0, .inr (7, [.ref h1, .ref h2, .ref h3, .ref (u.1 0), .ref (u.1 1), .int (u.2.2.2 28 0)])), (u.1 0, .inl (u.2.1, 10, .inl (u.2.2.2 26))), (u.1 1, .inl (u.2.1, 10, .inl (u.2.2.2 27)))]
def zm_LS_init : Room := { frames := 1, cells := 2, slots := 20, locals := 12 }
abbrev zc_Ma_init : ByteArray := prog_6_method_1_code
def zy_Ma_init : MethodName := ⟨zR_Ma, "<init>", "(LShadowWarden$Memory;LShadowWarden$Registers;LShadowWarden$Program;LShadowWarden$Pieces;LShadowWarden$Findings;LShadowWarden$Heap;)V"⟩
theorem zic_Ma_init : Cond.code zy_Ma_init zc_Ma_init 7 none ∈ zz_WS := zz_in 236 (by decide +kernel) rfl
theorem zii_Ma_init : Cond.instanceMethod zy_Ma_init ∈ zz_WS := zz_in 235 (by decide +kernel) rfl
theorem zij_Ma_init : Cond.initialized zR_Ma ∈ zz_WS := zz_in 56 (by decide +kernel) rfl
theorem zik_Ma_init : Cond.instantiable zR_Ma 11 ∈ zz_WS := zz_in 233 (by decide +kernel) rfl
theorem zd_Ma_init_0 : decode zc_Ma_init 0 = .ok (.aload_n 0, 1) := by decide +kernel
theorem zd_Ma_init_1 : decode zc_Ma_init 1 = .ok (.invokespecial 1, 3) := by decide +kernel
theorem zd_Ma_init_4 : decode zc_Ma_init 4 = .ok (.aload_n 0, 1) := by decide +kernel
theorem zd_Ma_init_5 : decode zc_Ma_init 5 = .ok (.aload_n 1, 1) := by decide +kernel
theorem zd_Ma_init_6 : decode zc_Ma_init 6 = .ok (.putfield 7, 3) := by decide +kernel
theorem zd_Ma_init_9 : decode zc_Ma_init 9 = .ok (.aload_n 0, 1) := by decide +kernel
theorem zd_Ma_init_10 : decode zc_Ma_init 10 = .ok (.aload_n 2, 1) := by decide +kernel
theorem zd_Ma_init_11 : decode zc_Ma_init 11 = .ok (.putfield 13, 3) := by decide +kernel
theorem zd_Ma_init_14 : decode zc_Ma_init 14 = .ok (.aload_n 0, 1) := by decide +kernel
theorem zd_Ma_init_15 : decode zc_Ma_init 15 = .ok (.aload_n 3, 1) := by decide +kernel
theorem zd_Ma_init_16 : decode zc_Ma_init 16 = .ok (.putfield 17, 3) := by decide +kernel
theorem zd_Ma_init_19 : decode zc_Ma_init 19 = .ok (.aload_n 0, 1) := by decide +kernel
theorem zd_Ma_init_20 : decode zc_Ma_init 20 = .ok (.aload 4, 2) := by decide +kernel
theorem zd_Ma_init_22 : decode zc_Ma_init 22 = .ok (.putfield 21, 3) := by decide +kernel
theorem zd_Ma_init_25 : decode zc_Ma_init 25 = .ok (.aload_n 0, 1) := by decide +kernel
theorem zd_Ma_init_26 : decode zc_Ma_init 26 = .ok (.aload 5, 2) := by decide +kernel
theorem zd_Ma_init_28 : decode zc_Ma_init 28 = .ok (.putfield 25, 3) := by decide +kernel
theorem zd_Ma_init_31 : decode zc_Ma_init 31 = .ok (.aload_n 0, 1) := by decide +kernel
theorem zd_Ma_init_32 : decode zc_Ma_init 32 = .ok (.aload 6, 2) := by decide +kernel
theorem zd_Ma_init_34 : decode zc_Ma_init 34 = .ok (.putfield 29, 3) := by decide +kernel
theorem zd_Ma_init_37 : decode zc_Ma_init 37 = .ok (.aload_n 0, 1) := by decide +kernel
theorem zd_Ma_init_38 : decode zc_Ma_init 38 = .ok (.iconst 1, 1) := by decide +kernel
theorem zd_Ma_init_39 : decode zc_Ma_init 39 = .ok (.putfield 33, 3) := by decide +kernel
theorem zd_Ma_init_42 : decode zc_Ma_init 42 = .ok (.return_, 1) := by decide +kernel
theorem zio_Ma_init : Cond.methodLink zR_Ma 1 objectInit ∈ zz_WS := zz_in 237 (by decide +kernel) rfl
theorem zif_Ma_init_7 : Cond.fieldLink zR_Ma 7 zR_Ma "bytes" "LShadowWarden$Memory;" ∈ zz_WS := zz_in 238 (by decide +kernel) rfl
theorem zif_Ma_init_13 : Cond.fieldLink zR_Ma 13 zR_Ma "registers" "LShadowWarden$Registers;" ∈ zz_WS := zz_in 239 (by decide +kernel) rfl
theorem zif_Ma_init_17 : Cond.fieldLink zR_Ma 17 zR_Ma "program" "LShadowWarden$Program;" ∈ zz_WS := zz_in 240 (by decide +kernel) rfl
theorem zif_Ma_init_21 : Cond.fieldLink zR_Ma 21 zR_Ma "pieces" "LShadowWarden$Pieces;" ∈ zz_WS := zz_in 241 (by decide +kernel) rfl
theorem zif_Ma_init_25 : Cond.fieldLink zR_Ma 25 zR_Ma "findings" "LShadowWarden$Findings;" ∈ zz_WS := zz_in 242 (by decide +kernel) rfl
theorem zif_Ma_init_29 : Cond.fieldLink zR_Ma 29 zR_Ma "heap" "LShadowWarden$Heap;" ∈ zz_WS := zz_in 243 (by decide +kernel) rfl
theorem zif_Ma_init_33 : Cond.fieldLink zR_Ma 33 zR_Ma "stopped" "Z" ∈ zz_WS := zz_in 246 (by decide +kernel) rfl
def zwC_Ma (h0 h1 h2 h3 h4 h5 h6 : Nat) (u : UC) : va_W := [(h0, .inr (8, [.ref h1, .ref h2, .ref h3, .ref h4, .ref h5, .ref h6, .int (u.2.2.2 29 0), .int (u.2.2.2 30 0), .int (u.2.2.2 31 0), .int (u.2.2.2 32 0), .int (u.2.2.2 33 0)]))]
def zm_Ma_init : Room := { frames := 1, cells := 0, slots := 0, locals := 12 }
abbrev zc_Mo_init : ByteArray := prog_12_method_1_code
def zy_Mo_init : MethodName := ⟨zR_Mo, "<init>", "()V"⟩
theorem zic_Mo_init : Cond.code zy_Mo_init zc_Mo_init 2 none ∈ zz_WS := zz_in 816 (by decide +kernel) rfl
theorem zii_Mo_init : Cond.instanceMethod zy_Mo_init ∈ zz_WS := zz_in 815 (by decide +kernel) rfl
theorem zij_Mo_init : Cond.initialized zR_Mo ∈ zz_WS := zz_in 57 (by decide +kernel) rfl
theorem zik_Mo_init : Cond.instantiable zR_Mo 29 ∈ zz_WS := zz_in 813 (by decide +kernel) rfl
theorem zd_Mo_init_0 : decode zc_Mo_init 0 = .ok (.aload_n 0, 1) := by decide +kernel
theorem zd_Mo_init_1 : decode zc_Mo_init 1 = .ok (.invokespecial 1, 3) := by decide +kernel
theorem zd_Mo_init_4 : decode zc_Mo_init 4 = .ok (.aload_n 0, 1) := by decide +kernel
theorem zd_Mo_init_5 : decode zc_Mo_init 5 = .ok (.bipush 32, 2) := by decide +kernel
theorem zd_Mo_init_7 : decode zc_Mo_init 7 = .ok (.newarray .int, 2) := by decide +kernel
theorem zd_Mo_init_9 : decode zc_Mo_init 9 = .ok (.putfield 7, 3) := by decide +kernel
theorem zd_Mo_init_12 : decode zc_Mo_init 12 = .ok (.aload_n 0, 1) := by decide +kernel
theorem zd_Mo_init_13 : decode zc_Mo_init 13 = .ok (.bipush 32, 2) := by decide +kernel
theorem zd_Mo_init_15 : decode zc_Mo_init 15 = .ok (.newarray .int, 2) := by decide +kernel
theorem zd_Mo_init_17 : decode zc_Mo_init 17 = .ok (.putfield 13, 3) := by decide +kernel
theorem zd_Mo_init_20 : decode zc_Mo_init 20 = .ok (.aload_n 0, 1) := by decide +kernel
theorem zd_Mo_init_21 : decode zc_Mo_init 21 = .ok (.bipush 32, 2) := by decide +kernel
theorem zd_Mo_init_23 : decode zc_Mo_init 23 = .ok (.newarray .int, 2) := by decide +kernel
theorem zd_Mo_init_25 : decode zc_Mo_init 25 = .ok (.putfield 16, 3) := by decide +kernel
theorem zd_Mo_init_28 : decode zc_Mo_init 28 = .ok (.aload_n 0, 1) := by decide +kernel
theorem zd_Mo_init_29 : decode zc_Mo_init 29 = .ok (.bipush 32, 2) := by decide +kernel
theorem zd_Mo_init_31 : decode zc_Mo_init 31 = .ok (.newarray .int, 2) := by decide +kernel
theorem zd_Mo_init_33 : decode zc_Mo_init 33 = .ok (.putfield 19, 3) := by decide +kernel
theorem zd_Mo_init_36 : decode zc_Mo_init 36 = .ok (.aload_n 0, 1) := by decide +kernel
theorem zd_Mo_init_37 : decode zc_Mo_init 37 = .ok (.bipush 32, 2) := by decide +kernel
theorem zd_Mo_init_39 : decode zc_Mo_init 39 = .ok (.newarray .int, 2) := by decide +kernel
theorem zd_Mo_init_41 : decode zc_Mo_init 41 = .ok (.putfield 22, 3) := by decide +kernel
theorem zd_Mo_init_44 : decode zc_Mo_init 44 = .ok (.aload_n 0, 1) := by decide +kernel
theorem zd_Mo_init_45 : decode zc_Mo_init 45 = .ok (.sipush 256, 3) := by decide +kernel
theorem zd_Mo_init_48 : decode zc_Mo_init 48 = .ok (.newarray .int, 2) := by decide +kernel
theorem zd_Mo_init_50 : decode zc_Mo_init 50 = .ok (.putfield 25, 3) := by decide +kernel
theorem zd_Mo_init_53 : decode zc_Mo_init 53 = .ok (.aload_n 0, 1) := by decide +kernel
theorem zd_Mo_init_54 : decode zc_Mo_init 54 = .ok (.sipush 256, 3) := by decide +kernel
theorem zd_Mo_init_57 : decode zc_Mo_init 57 = .ok (.newarray .int, 2) := by decide +kernel
theorem zd_Mo_init_59 : decode zc_Mo_init 59 = .ok (.putfield 28, 3) := by decide +kernel
theorem zd_Mo_init_62 : decode zc_Mo_init 62 = .ok (.aload_n 0, 1) := by decide +kernel
theorem zd_Mo_init_63 : decode zc_Mo_init 63 = .ok (.sipush 256, 3) := by decide +kernel
theorem zd_Mo_init_66 : decode zc_Mo_init 66 = .ok (.newarray .int, 2) := by decide +kernel
theorem zd_Mo_init_68 : decode zc_Mo_init 68 = .ok (.putfield 31, 3) := by decide +kernel
theorem zd_Mo_init_71 : decode zc_Mo_init 71 = .ok (.aload_n 0, 1) := by decide +kernel
theorem zd_Mo_init_72 : decode zc_Mo_init 72 = .ok (.bipush 8, 2) := by decide +kernel
theorem zd_Mo_init_74 : decode zc_Mo_init 74 = .ok (.newarray .int, 2) := by decide +kernel
theorem zd_Mo_init_76 : decode zc_Mo_init 76 = .ok (.putfield 34, 3) := by decide +kernel
theorem zd_Mo_init_79 : decode zc_Mo_init 79 = .ok (.aload_n 0, 1) := by decide +kernel
theorem zd_Mo_init_80 : decode zc_Mo_init 80 = .ok (.bipush 8, 2) := by decide +kernel
theorem zd_Mo_init_82 : decode zc_Mo_init 82 = .ok (.newarray .int, 2) := by decide +kernel
theorem zd_Mo_init_84 : decode zc_Mo_init 84 = .ok (.putfield 37, 3) := by decide +kernel
theorem zd_Mo_init_87 : decode zc_Mo_init 87 = .ok (.aload_n 0, 1) := by decide +kernel
theorem zd_Mo_init_88 : decode zc_Mo_init 88 = .ok (.bipush 10, 2) := by decide +kernel
theorem zd_Mo_init_90 : decode zc_Mo_init 90 = .ok (.newarray .int, 2) := by decide +kernel
theorem zd_Mo_init_92 : decode zc_Mo_init 92 = .ok (.putfield 40, 3) := by decide +kernel
theorem zd_Mo_init_95 : decode zc_Mo_init 95 = .ok (.aload_n 0, 1) := by decide +kernel
theorem zd_Mo_init_96 : decode zc_Mo_init 96 = .ok (.bipush 10, 2) := by decide +kernel
theorem zd_Mo_init_98 : decode zc_Mo_init 98 = .ok (.newarray .int, 2) := by decide +kernel
theorem zd_Mo_init_100 : decode zc_Mo_init 100 = .ok (.putfield 43, 3) := by decide +kernel
theorem zd_Mo_init_103 : decode zc_Mo_init 103 = .ok (.aload_n 0, 1) := by decide +kernel
theorem zd_Mo_init_104 : decode zc_Mo_init 104 = .ok (.bipush 10, 2) := by decide +kernel
theorem zd_Mo_init_106 : decode zc_Mo_init 106 = .ok (.newarray .int, 2) := by decide +kernel
theorem zd_Mo_init_108 : decode zc_Mo_init 108 = .ok (.putfield 46, 3) := by decide +kernel
theorem zd_Mo_init_111 : decode zc_Mo_init 111 = .ok (.aload_n 0, 1) := by decide +kernel
theorem zd_Mo_init_112 : decode zc_Mo_init 112 = .ok (.bipush 10, 2) := by decide +kernel
theorem zd_Mo_init_114 : decode zc_Mo_init 114 = .ok (.newarray .int, 2) := by decide +kernel
theorem zd_Mo_init_116 : decode zc_Mo_init 116 = .ok (.putfield 49, 3) := by decide +kernel
theorem zd_Mo_init_119 : decode zc_Mo_init 119 = .ok (.aload_n 0, 1) := by decide +kernel
theorem zd_Mo_init_120 : decode zc_Mo_init 120 = .ok (.bipush 10, 2) := by decide +kernel
theorem zd_Mo_init_122 : decode zc_Mo_init 122 = .ok (.newarray .int, 2) := by decide +kernel
theorem zd_Mo_init_124 : decode zc_Mo_init 124 = .ok (.putfield 52, 3) := by decide +kernel
theorem zd_Mo_init_127 : decode zc_Mo_init 127 = .ok (.aload_n 0, 1) := by decide +kernel
theorem zd_Mo_init_128 : decode zc_Mo_init 128 = .ok (.bipush 24, 2) := by decide +kernel
theorem zd_Mo_init_130 : decode zc_Mo_init 130 = .ok (.newarray .int, 2) := by decide +kernel
theorem zd_Mo_init_132 : decode zc_Mo_init 132 = .ok (.putfield 55, 3) := by decide +kernel
theorem zd_Mo_init_135 : decode zc_Mo_init 135 = .ok (.aload_n 0, 1) := by decide +kernel
theorem zd_Mo_init_136 : decode zc_Mo_init 136 = .ok (.bipush 24, 2) := by decide +kernel
theorem zd_Mo_init_138 : decode zc_Mo_init 138 = .ok (.newarray .int, 2) := by decide +kernel
theorem zd_Mo_init_140 : decode zc_Mo_init 140 = .ok (.putfield 58, 3) := by decide +kernel
theorem zd_Mo_init_143 : decode zc_Mo_init 143 = .ok (.aload_n 0, 1) := by decide +kernel
theorem zd_Mo_init_144 : decode zc_Mo_init 144 = .ok (.bipush 24, 2) := by decide +kernel
theorem zd_Mo_init_146 : decode zc_Mo_init 146 = .ok (.newarray .int, 2) := by decide +kernel
theorem zd_Mo_init_148 : decode zc_Mo_init 148 = .ok (.putfield 61, 3) := by decide +kernel
theorem zd_Mo_init_151 : decode zc_Mo_init 151 = .ok (.aload_n 0, 1) := by decide +kernel
theorem zd_Mo_init_152 : decode zc_Mo_init 152 = .ok (.bipush 24, 2) := by decide +kernel
theorem zd_Mo_init_154 : decode zc_Mo_init 154 = .ok (.newarray .int, 2) := by decide +kernel
theorem zd_Mo_init_156 : decode zc_Mo_init 156 = .ok (.putfield 64, 3) := by decide +kernel
theorem zd_Mo_init_159 : decode zc_Mo_init 159 = .ok (.aload_n 0, 1) := by decide +kernel
theorem zd_Mo_init_160 : decode zc_Mo_init 160 = .ok (.bipush 32, 2) := by decide +kernel
theorem zd_Mo_init_162 : decode zc_Mo_init 162 = .ok (.newarray .boolean, 2) := by decide +kernel
theorem zd_Mo_init_164 : decode zc_Mo_init 164 = .ok (.putfield 67, 3) := by decide +kernel
theorem zd_Mo_init_167 : decode zc_Mo_init 167 = .ok (.aload_n 0, 1) := by decide +kernel
theorem zd_Mo_init_168 : decode zc_Mo_init 168 = .ok (.iconst 1, 1) := by decide +kernel
theorem zd_Mo_init_169 : decode zc_Mo_init 169 = .ok (.putfield 71, 3) := by decide +kernel
theorem zd_Mo_init_172 : decode zc_Mo_init 172 = .ok (.iconst 0, 1) := by decide +kernel
theorem zd_Mo_init_173 : decode zc_Mo_init 173 = .ok (.istore_n 1, 1) := by decide +kernel
theorem zd_Mo_init_174 : decode zc_Mo_init 174 = .ok (.iload_n 1, 1) := by decide +kernel
theorem zd_Mo_init_175 : decode zc_Mo_init 175 = .ok (.sipush 256, 3) := by decide +kernel
theorem zd_Mo_init_178 : decode zc_Mo_init 178 = .ok (.if_icmp .ge 50, 3) := by decide +kernel
theorem zd_Mo_init_181 : decode zc_Mo_init 181 = .ok (.aload_n 0, 1) := by decide +kernel
theorem zd_Mo_init_182 : decode zc_Mo_init 182 = .ok (.getfield 28, 3) := by decide +kernel
theorem zd_Mo_init_185 : decode zc_Mo_init 185 = .ok (.iload_n 1, 1) := by decide +kernel
theorem zd_Mo_init_186 : decode zc_Mo_init 186 = .ok (.iload_n 1, 1) := by decide +kernel
theorem zd_Mo_init_187 : decode zc_Mo_init 187 = .ok (.bipush 64, 2) := by decide +kernel
theorem zd_Mo_init_189 : decode zc_Mo_init 189 = .ok (.if_icmp .lt 10, 3) := by decide +kernel
theorem zd_Mo_init_192 : decode zc_Mo_init 192 = .ok (.iload_n 1, 1) := by decide +kernel
theorem zd_Mo_init_193 : decode zc_Mo_init 193 = .ok (.sipush 223, 3) := by decide +kernel
theorem zd_Mo_init_196 : decode zc_Mo_init 196 = .ok (.if_icmp .le 7, 3) := by decide +kernel
theorem zd_Mo_init_199 : decode zc_Mo_init 199 = .ok (.iconst 1, 1) := by decide +kernel
theorem zd_Mo_init_200 : decode zc_Mo_init 200 = .ok (.goto 4, 3) := by decide +kernel
theorem zd_Mo_init_203 : decode zc_Mo_init 203 = .ok (.iconst 0, 1) := by decide +kernel
theorem zd_Mo_init_204 : decode zc_Mo_init 204 = .ok (.iastore, 1) := by decide +kernel
theorem zd_Mo_init_205 : decode zc_Mo_init 205 = .ok (.aload_n 0, 1) := by decide +kernel
theorem zd_Mo_init_206 : decode zc_Mo_init 206 = .ok (.getfield 31, 3) := by decide +kernel
theorem zd_Mo_init_209 : decode zc_Mo_init 209 = .ok (.iload_n 1, 1) := by decide +kernel
theorem zd_Mo_init_210 : decode zc_Mo_init 210 = .ok (.iload_n 1, 1) := by decide +kernel
theorem zd_Mo_init_211 : decode zc_Mo_init 211 = .ok (.bipush 64, 2) := by decide +kernel
theorem zd_Mo_init_213 : decode zc_Mo_init 213 = .ok (.if_icmp .ge 7, 3) := by decide +kernel
theorem zd_Mo_init_216 : decode zc_Mo_init 216 = .ok (.iconst 1, 1) := by decide +kernel
theorem zd_Mo_init_217 : decode zc_Mo_init 217 = .ok (.goto 4, 3) := by decide +kernel
theorem zd_Mo_init_220 : decode zc_Mo_init 220 = .ok (.iconst 0, 1) := by decide +kernel
theorem zd_Mo_init_221 : decode zc_Mo_init 221 = .ok (.iastore, 1) := by decide +kernel
theorem zd_Mo_init_222 : decode zc_Mo_init 222 = .ok (.iinc 1 1, 3) := by decide +kernel
theorem zd_Mo_init_225 : decode zc_Mo_init 225 = .ok (.goto (-51), 3) := by decide +kernel
theorem zd_Mo_init_228 : decode zc_Mo_init 228 = .ok (.iconst 0, 1) := by decide +kernel
theorem zd_Mo_init_229 : decode zc_Mo_init 229 = .ok (.istore_n 1, 1) := by decide +kernel
theorem zd_Mo_init_230 : decode zc_Mo_init 230 = .ok (.iload_n 1, 1) := by decide +kernel
theorem zd_Mo_init_231 : decode zc_Mo_init 231 = .ok (.bipush 8, 2) := by decide +kernel
theorem zd_Mo_init_233 : decode zc_Mo_init 233 = .ok (.if_icmp .ge 17, 3) := by decide +kernel
theorem zd_Mo_init_236 : decode zc_Mo_init 236 = .ok (.aload_n 0, 1) := by decide +kernel
theorem zd_Mo_init_237 : decode zc_Mo_init 237 = .ok (.getfield 37, 3) := by decide +kernel
theorem zd_Mo_init_240 : decode zc_Mo_init 240 = .ok (.iload_n 1, 1) := by decide +kernel
theorem zd_Mo_init_241 : decode zc_Mo_init 241 = .ok (.bipush 15, 2) := by decide +kernel
theorem zd_Mo_init_243 : decode zc_Mo_init 243 = .ok (.iastore, 1) := by decide +kernel
theorem zd_Mo_init_244 : decode zc_Mo_init 244 = .ok (.iinc 1 1, 3) := by decide +kernel
theorem zd_Mo_init_247 : decode zc_Mo_init 247 = .ok (.goto (-17), 3) := by decide +kernel
theorem zd_Mo_init_250 : decode zc_Mo_init 250 = .ok (.return_, 1) := by decide +kernel
theorem zio_Mo_init : Cond.methodLink zR_Mo 1 objectInit ∈ zz_WS := zz_in 817 (by decide +kernel) rfl
theorem zif_Mo_init_7 : Cond.fieldLink zR_Mo 7 zR_Mo "op" "[I" ∈ zz_WS := zz_in 818 (by decide +kernel) rfl
theorem zif_Mo_init_13 : Cond.fieldLink zR_Mo 13 zR_Mo "d" "[I" ∈ zz_WS := zz_in 819 (by decide +kernel) rfl
theorem zif_Mo_init_16 : Cond.fieldLink zR_Mo 16 zR_Mo "a" "[I" ∈ zz_WS := zz_in 820 (by decide +kernel) rfl
theorem zif_Mo_init_19 : Cond.fieldLink zR_Mo 19 zR_Mo "b" "[I" ∈ zz_WS := zz_in 821 (by decide +kernel) rfl
theorem zif_Mo_init_22 : Cond.fieldLink zR_Mo 22 zR_Mo "n" "[I" ∈ zz_WS := zz_in 822 (by decide +kernel) rfl
theorem zif_Mo_init_25 : Cond.fieldLink zR_Mo 25 zR_Mo "memory" "[I" ∈ zz_WS := zz_in 823 (by decide +kernel) rfl
theorem zif_Mo_init_28 : Cond.fieldLink zR_Mo 28 zR_Mo "open" "[I" ∈ zz_WS := zz_in 824 (by decide +kernel) rfl
theorem zif_Mo_init_31 : Cond.fieldLink zR_Mo 31 zR_Mo "known" "[I" ∈ zz_WS := zz_in 825 (by decide +kernel) rfl
theorem zif_Mo_init_34 : Cond.fieldLink zR_Mo 34 zR_Mo "register" "[I" ∈ zz_WS := zz_in 826 (by decide +kernel) rfl
theorem zif_Mo_init_37 : Cond.fieldLink zR_Mo 37 zR_Mo "sure" "[I" ∈ zz_WS := zz_in 827 (by decide +kernel) rfl
theorem zif_Mo_init_40 : Cond.fieldLink zR_Mo 40 zR_Mo "number" "[I" ∈ zz_WS := zz_in 828 (by decide +kernel) rfl
theorem zif_Mo_init_43 : Cond.fieldLink zR_Mo 43 zR_Mo "address" "[I" ∈ zz_WS := zz_in 829 (by decide +kernel) rfl
theorem zif_Mo_init_46 : Cond.fieldLink zR_Mo 46 zR_Mo "size" "[I" ∈ zz_WS := zz_in 830 (by decide +kernel) rfl
theorem zif_Mo_init_49 : Cond.fieldLink zR_Mo 49 zR_Mo "rests" "[I" ∈ zz_WS := zz_in 831 (by decide +kernel) rfl
theorem zif_Mo_init_52 : Cond.fieldLink zR_Mo 52 zR_Mo "seen" "[I" ∈ zz_WS := zz_in 832 (by decide +kernel) rfl
theorem zif_Mo_init_55 : Cond.fieldLink zR_Mo 55 zR_Mo "kind" "[I" ∈ zz_WS := zz_in 833 (by decide +kernel) rfl
theorem zif_Mo_init_58 : Cond.fieldLink zR_Mo 58 zR_Mo "at" "[I" ∈ zz_WS := zz_in 834 (by decide +kernel) rfl
theorem zif_Mo_init_61 : Cond.fieldLink zR_Mo 61 zR_Mo "where" "[I" ∈ zz_WS := zz_in 835 (by decide +kernel) rfl
theorem zif_Mo_init_64 : Cond.fieldLink zR_Mo 64 zR_Mo "often" "[I" ∈ zz_WS := zz_in 836 (by decide +kernel) rfl
theorem zif_Mo_init_67 : Cond.fieldLink zR_Mo 67 zR_Mo "piece" "[Z" ∈ zz_WS := zz_in 837 (by decide +kernel) rfl
theorem zif_Mo_init_71 : Cond.fieldLink zR_Mo 71 zR_Mo "stopped" "Z" ∈ zz_WS := zz_in 846 (by decide +kernel) rfl
def zwC_Mo (h0 : Nat) (u : UC) : va_W := [(h0, .inr (9, [.ref (u.1 0), .ref (u.1 1), .ref (u.1 2), .ref (u.1 3), .ref (u.1 4), .ref (u.1 5), .ref (u.1 6), .ref (u.1 7), .ref (u.1 8), .ref (u.1 9), .ref (u.1 10), .ref (u.1 11), .ref (u.1 12), .ref (u.1 13), .ref (u.1 14), .ref (u.1 15), .ref (u.1 16), .ref (u.1 17), .ref (u.1 18), .ref (u.1 19), .int (u.2.2.2 20 0), .int (u.2.2.2 21 0), .int (u.2.2.2 22 0), .int (u.2.2.2 23 0), .int (u.2.2.2 24 0), .int (u.2.2.2 25 0), .int (u.2.2.2 26 0), .int (u.2.2.2 27 0), .int (u.2.2.2 28 0)])), (u.1 0, .inl (u.2.1, 32, .inl (u.2.2.2 0))), (u.1 1, .inl (u.2.1, 32, .inl (u.2.2.2 1))), (u.1 2, .inl (u.2.1, 32, .inl (u.2.2.2 2))), (u.1 3, .inl (u.2.1, 32, .inl (u.2.2.2 3))), (u.1 4, .inl (u.2.1, 32, .inl (u.2.2.2 4))), (u.1 5, .inl (u.2.1, 256, .inl (u.2.2.2 5))), (u.1 6, .inl (u.2.1, 256, .inl (u.2.2.2 6))), (u.1 7, .inl (u.2.1, 256, .inl (u.2.2.2 7))), (u.1 8, .inl (u.2.1, 8, .inl (u.2.2.2 8))), (u.1 9, .inl (u.2.1, 8, .inl (u.2.2.2 9))), (u.1 10, .inl (u.2.1, 10, .inl (u.2.2.2 10))), (u.1 11, .inl (u.2.1, 10, .inl (u.2.2.2 11))), (u.1 12, .inl (u.2.1, 10, .inl (u.2.2.2 12))), (u.1 13, .inl (u.2.1, 10, .inl (u.2.2.2 13))), (u.1 14, .inl (u.2.1, 10, .inl (u.2.2.2 14))), (u.1 15, .inl (u.2.1, 24, .inl (u.2.2.2 15))), (u.1 16, .inl (u.2.1, 24, .inl (u.2.2.2 16))), (u.1 17, .inl (u.2.1, 24, .inl (u.2.2.2 17))), (u.1 18, .inl (u.2.1, 24, .inl (u.2.2.2 18))), (u.1 19, .inl (u.2.2.1, 32, .inl (u.2.2.2 19)))]
def zm_Mo_init : Room := { frames := 1, cells := 20, slots := 1122, locals := 12 }
