set_option maxRecDepth 100000 in
set_option maxHeartbeats 4000000 in
theorem zw_E_Me_init_L33 {p : Program} {l : Launch} {e : Env} {s : State} {m : MethodId} {args : Array Value} {below : List Frame} {meth : Method} {c : Code} {D : va_G} {q : Nat → Nat} {cI cZ : ClassId} {A : Nat → Prop} {R : Room} {cells slots : Nat} {Q : State → Prop} {out : St} (hx : p.tables.exec = Jvm.exec) (hb : c.code = zc_Me_init) (hown : s.vm.findClass zR_Me = some m.cls) (hts : ∀ w ∈ zz_WS, w.before args s = true) (hret : ∀ (H : Heap) (locs : List Loc) (ls : Array Slot), zz_X D vwCl (zz_tys cI cZ) A s H locs ((wE q cI cZ) out) → lv_has ls 2 [] → W p l e R s m args below meth c H locs cells slots Q (F0 m 83 ls []))  (kx : St → Option St) (hkx : ∀ (σ : St) (H : Heap) (locs : List Loc) (ls : Array Slot), zz_X D vwCl (zz_tys cI cZ) A s H locs ((wE q cI cZ) σ) → lv_has ls 2 [(0, .ref (q 0))] → kx σ = some out → W p l e R s m args below meth c H locs cells slots Q (F0 m 59 ls [])) : ∀ (n : Nat) (σ : St) (x1 : Int32) (H : Heap) (locs : List Loc) (ls : Array Slot), zz_X D vwCl (zz_tys cI cZ) A s H locs ((wE q cI cZ) σ) → lv_has ls 2 [(0, .ref (q 0)), (1, .int x1)] → zf_E_Me_init_L33 kx n σ x1 = some out → W p l e R s m args below meth c H locs cells slots Q (F0 m 33 ls []) := by
  intro n
  induction n with
  | zero =>
    intro σ x1 H locs ls X hl hf
    exact absurd hf (by simp [zf_E_Me_init_L33])
  | succ n ih =>
    intro σ x1 H locs ls X hl hf
    rw [zf_E_Me_init_L33] at hf
    refine lv_iload_n hx hb zd_Me_init_33 rfl (lv_at hl 1 rfl) ?_
    refine lv_bipush (v := 64) hx hb zd_Me_init_34 (by decide) ?_
    refine lv_icmp_ge (tgt := 59) hx hb zd_Me_init_36 (by decide) (fun g1 => ?_) (fun g1 => ?_)
    · rw [if_pos g1] at hf
      exact hkx σ _ _ _ X (lv_sub hl [0] rfl) hf
    · rw [if_neg g1] at hf
      refine lv_aload_n hx hb zd_Me_init_39 rfl (lv_at hl 0 rfl) ?_
      refine zg_E_Me_open hx hb hts hown X zd_Me_init_40 ?_
      refine lv_iload_n hx hb zd_Me_init_43 rfl (lv_at hl 1 rfl) ?_
      refine lv_iconst (v := 1) hx hb zd_Me_init_44 (by decide) ?_
      obtain ⟨hin, hf⟩ := zz_ck_some hf
      refine zs_E_Me_open hx hb X hin zd_Me_init_45 (fun H locs X => ?_)
      refine lv_aload_n hx hb zd_Me_init_46 rfl (lv_at hl 0 rfl) ?_
      refine zg_E_Me_known hx hb hts hown X zd_Me_init_47 ?_
      refine lv_iload_n hx hb zd_Me_init_50 rfl (lv_at hl 1 rfl) ?_
      refine lv_iconst (v := 1) hx hb zd_Me_init_51 (by decide) ?_
      obtain ⟨hin, hf⟩ := zz_ck_some hf
      refine zs_E_Me_known hx hb X hin zd_Me_init_52 (fun H locs X => ?_)
      refine lv_iinc (v := (x1 + (1 : Int32))) (lv' := [(1, .int (x1 + (1 : Int32))), (0, .ref (q 0))]) hx hb zd_Me_init_53 hl (k := 1) rfl rfl (by decide) rfl (fun ls hl => ?_)
      refine lv_goto (tgt := 33) hx hb zd_Me_init_56 (by decide) ?_
      exact ih (zz_put (zz_put σ 1 x1.toNatClampNeg (vp_nar .boolean (1 : Int32))) 2 x1.toNatClampNeg (vp_nar .boolean (1 : Int32))) (x1 + (1 : Int32)) _ _ _ X (lv_sub hl [1, 0] rfl) hf

set_option maxRecDepth 100000 in
set_option maxHeartbeats 4000000 in
theorem zw_E_Me_init_L63 {p : Program} {l : Launch} {e : Env} {s : State} {m : MethodId} {args : Array Value} {below : List Frame} {meth : Method} {c : Code} {D : va_G} {q : Nat → Nat} {cI cZ : ClassId} {A : Nat → Prop} {R : Room} {cells slots : Nat} {Q : State → Prop} {out : St} (hx : p.tables.exec = Jvm.exec) (hb : c.code = zc_Me_init) (hown : s.vm.findClass zR_Me = some m.cls) (hts : ∀ w ∈ zz_WS, w.before args s = true) (hret : ∀ (H : Heap) (locs : List Loc) (ls : Array Slot), zz_X D vwCl (zz_tys cI cZ) A s H locs ((wE q cI cZ) out) → lv_has ls 2 [] → W p l e R s m args below meth c H locs cells slots Q (F0 m 83 ls []))  (kx : St → Option St) (hkx : ∀ (σ : St) (H : Heap) (locs : List Loc) (ls : Array Slot), zz_X D vwCl (zz_tys cI cZ) A s H locs ((wE q cI cZ) σ) → lv_has ls 2 [] → kx σ = some out → W p l e R s m args below meth c H locs cells slots Q (F0 m 83 ls [])) : ∀ (n : Nat) (σ : St) (x1 : Int32) (H : Heap) (locs : List Loc) (ls : Array Slot), zz_X D vwCl (zz_tys cI cZ) A s H locs ((wE q cI cZ) σ) → lv_has ls 2 [(0, .ref (q 0)), (1, .int x1)] → zf_E_Me_init_L63 kx n σ x1 = some out → W p l e R s m args below meth c H locs cells slots Q (F0 m 63 ls []) := by
  intro n
  induction n with
  | zero =>
    intro σ x1 H locs ls X hl hf
    exact absurd hf (by simp [zf_E_Me_init_L63])
  | succ n ih =>
    intro σ x1 H locs ls X hl hf
    rw [zf_E_Me_init_L63] at hf
    refine lv_iload_n hx hb zd_Me_init_63 rfl (lv_at hl 1 rfl) ?_
    refine lv_sipush (v := 256) hx hb zd_Me_init_64 (by decide) ?_
    refine lv_icmp_ge (tgt := 83) hx hb zd_Me_init_67 (by decide) (fun g3 => ?_) (fun g3 => ?_)
    · rw [if_pos g3] at hf
      exact hkx σ _ _ _ X (lv_sub hl [] rfl) hf
    · rw [if_neg g3] at hf
      refine lv_aload_n hx hb zd_Me_init_70 rfl (lv_at hl 0 rfl) ?_
      refine zg_E_Me_open hx hb hts hown X zd_Me_init_71 ?_
      refine lv_iload_n hx hb zd_Me_init_74 rfl (lv_at hl 1 rfl) ?_
      refine lv_iconst (v := 1) hx hb zd_Me_init_75 (by decide) ?_
      obtain ⟨hin, hf⟩ := zz_ck_some hf
      refine zs_E_Me_open hx hb X hin zd_Me_init_76 (fun H locs X => ?_)
      refine lv_iinc (v := (x1 + (1 : Int32))) (lv' := [(1, .int (x1 + (1 : Int32))), (0, .ref (q 0))]) hx hb zd_Me_init_77 hl (k := 1) rfl rfl (by decide) rfl (fun ls hl => ?_)
      refine lv_goto (tgt := 63) hx hb zd_Me_init_80 (by decide) ?_
      exact ih (zz_put σ 1 x1.toNatClampNeg (vp_nar .boolean (1 : Int32))) (x1 + (1 : Int32)) _ _ _ X (lv_sub hl [1, 0] rfl) hf

set_option maxRecDepth 100000 in
set_option maxHeartbeats 4000000 in
theorem zw_E_Me_init_b31 {p : Program} {l : Launch} {e : Env} {s : State} {m : MethodId} {args : Array Value} {below : List Frame} {meth : Method} {c : Code} {D : va_G} {q : Nat → Nat} {cI cZ : ClassId} {A : Nat → Prop} {R : Room} {cells slots : Nat} {Q : State → Prop} {out : St} (hx : p.tables.exec = Jvm.exec) (hb : c.code = zc_Me_init) (hown : s.vm.findClass zR_Me = some m.cls) (hts : ∀ w ∈ zz_WS, w.before args s = true) (hret : ∀ (H : Heap) (locs : List Loc) (ls : Array Slot), zz_X D vwCl (zz_tys cI cZ) A s H locs ((wE q cI cZ) out) → lv_has ls 2 [] → W p l e R s m args below meth c H locs cells slots Q (F0 m 83 ls [])) : ∀ (σ : St) (H : Heap) (locs : List Loc) (ls : Array Slot), zz_X D vwCl (zz_tys cI cZ) A s H locs ((wE q cI cZ) σ) → lv_has ls 2 [(0, .ref (q 0))] → zf_E_Me_init_b31 σ = some out → W p l e R s m args below meth c H locs cells slots Q (F0 m 31 ls []) := by
  intro σ  H locs ls X hl hf
  rw [zf_E_Me_init_b31] at hf
  refine lv_iconst (v := 0) hx hb zd_Me_init_31 (by decide) ?_
  refine lv_istore_n (lv' := [(1, .int (0 : Int32)), (0, .ref (q 0))]) hx hb zd_Me_init_32 rfl hl (by decide) rfl (fun ls hl => ?_)
  refine zw_E_Me_init_L33 hx hb hown hts hret _ (fun s2 H locs ls X hl hf => ?_) 300 σ (0 : Int32) _ _ _ X (lv_sub hl [1, 0] rfl) hf
  refine lv_sipush (v := 224) hx hb zd_Me_init_59 (by decide) ?_
  refine lv_istore_n (lv' := [(1, .int (224 : Int32)), (0, .ref (q 0))]) hx hb zd_Me_init_62 rfl hl (by decide) rfl (fun ls hl => ?_)
  refine zw_E_Me_init_L63 hx hb hown hts hret _ (fun s4 H locs ls X hl hf => ?_) 300 s2 (224 : Int32) _ _ _ X (lv_sub hl [1, 0] rfl) hf
  exact hret _ _ _ (by rw [← Option.some.inj hf]; exact X) (lv_sub hl [] rfl)

set_option maxRecDepth 100000 in
set_option maxHeartbeats 4000000 in
theorem zk_Me_init (l : Launch) (D : va_G) (h0 : Nat) {out : St} (hf : zf_E_Me_init_b31 (fun _ _ => 0) = some out) : zC l D vwCl (fun u => [(u.2.1, .int), (u.2.2.1, .boolean)]) (zwC_Me h0) zy_Me_init (.code zy_Me_init zc_Me_init 2 none :: zz_WS) zm_Me_init [.ref h0] [(h0, .inr (1, [.null, .null, .null]))] (fun u => u.2.2.2 = out) 3 768 := by
  refine zC_of (by decide +kernel) (Nat.le_of_ble_eq_true rfl) (fun p e s m below meth c A ls hx hb hml hown hts hr hlocks hin X hl => ?_)
  have hl : lv_has ls 2 [(0, .ref h0)] := hl
  refine lv_aload_n hx hb zd_Me_init_0 rfl (lv_at hl 0 rfl) ?_
  refine W.objInit hx hb hown (hts _ zio_Me_init) (hts _ zo_inst) (hts _ zo_code) rfl (by rw [hml]; exact hl.1) rfl zd_Me_init_1 (Nat.le_of_ble_eq_true rfl) (Nat.le_of_ble_eq_true rfl) ?_
  refine W.eq (g2 := F0 m 4 ls []) rfl ?_
  refine lv_aload_n hx hb zd_Me_init_4 rfl (lv_at hl 0 rfl) ?_
  refine lv_sipush (v := 256) hx hb zd_Me_init_5 (by decide) ?_
  refine zr_newa (atype := .int) (ty := .int) (N' := 256) (a0 := (256, .inl (fun _ => 0))) rfl hx hb hts zo_aI X (fun cA => rfl) (by decide) (by decide) (by decide) ⟨Nat.le_of_ble_eq_true rfl, Nat.le_of_ble_eq_true rfl⟩ zd_Me_init_8 (fun q1 c1 H X => ?_)
  have X : zz_X D vwCl [(c1, .int)] A s H _ [(h0, .inr (1, [.null, .null, .null])), (q1, .inl (c1, 256, .inl (fun _ => 0)))] := X
  refine va_putF (D := D) (ci := 1) (v := .ref q1) (ty := (.array .int)) (C := zR_Me) (T := zT_Me) (N := 3) hx hb hts zi_Me zt_Me zo_Me zn_Me hown X.1 X.2.1 X.2.2.1 X.2.2.2.1 0 rfl rfl 0 (by decide) (hts _ zif_Me_init_9) (fun _ h9 => h9) rfl hin rfl (by decide +kernel) rfl rfl (Nat.le_of_ble_eq_true rfl) zd_Me_init_10 (fun H locs hP hD hS => ?_)
  have X : zz_X D vwCl [(c1, .int)] A s H locs [(h0, .inr (1, [.ref q1, .null, .null])), (q1, .inl (c1, 256, .inl (fun _ => 0)))] := ⟨X.1, hP, hD, hS, X.2.2.2.2⟩
  refine lv_aload_n hx hb zd_Me_init_13 rfl (lv_at hl 0 rfl) ?_
  refine lv_sipush (v := 256) hx hb zd_Me_init_14 (by decide) ?_
  refine zr_newa (atype := .boolean) (ty := .boolean) (N' := 256) (a0 := (256, .inl (fun _ => 0))) rfl hx hb hts zo_aZ X (fun cA => rfl) (by decide) (by decide) (by decide) ⟨Nat.le_of_ble_eq_true rfl, Nat.le_of_ble_eq_true rfl⟩ zd_Me_init_17 (fun q2 c2 H X => ?_)
  have X : zz_X D vwCl [(c1, .int), (c2, .boolean)] A s H _ [(h0, .inr (1, [.ref q1, .null, .null])), (q1, .inl (c1, 256, .inl (fun _ => 0))), (q2, .inl (c2, 256, .inl (fun _ => 0)))] := X
  refine va_putF (D := D) (ci := 1) (v := .ref q2) (ty := (.array .boolean)) (C := zR_Me) (T := zT_Me) (N := 3) hx hb hts zi_Me zt_Me zo_Me zn_Me hown X.1 X.2.1 X.2.2.1 X.2.2.2.1 0 rfl rfl 1 (by decide) (hts _ zif_Me_init_13) (fun _ h9 => h9) rfl hin rfl (by decide +kernel) rfl rfl (Nat.le_of_ble_eq_true rfl) zd_Me_init_19 (fun H locs hP hD hS => ?_)
  have X : zz_X D vwCl [(c1, .int), (c2, .boolean)] A s H locs [(h0, .inr (1, [.ref q1, .ref q2, .null])), (q1, .inl (c1, 256, .inl (fun _ => 0))), (q2, .inl (c2, 256, .inl (fun _ => 0)))] := ⟨X.1, hP, hD, hS, X.2.2.2.2⟩
  refine lv_aload_n hx hb zd_Me_init_22 rfl (lv_at hl 0 rfl) ?_
  refine lv_sipush (v := 256) hx hb zd_Me_init_23 (by decide) ?_
  refine zr_newa (atype := .boolean) (ty := .boolean) (N' := 256) (a0 := (256, .inl (fun _ => 0))) rfl hx hb hts zo_aZ X (fun cA => rfl) (by decide) (by decide) (by decide) ⟨Nat.le_of_ble_eq_true rfl, Nat.le_of_ble_eq_true rfl⟩ zd_Me_init_26 (fun q3 c3 H X => ?_)
  have X : zz_X D vwCl [(c1, .int), (c2, .boolean), (c3, .boolean)] A s H _ [(h0, .inr (1, [.ref q1, .ref q2, .null])), (q1, .inl (c1, 256, .inl (fun _ => 0))), (q2, .inl (c2, 256, .inl (fun _ => 0))), (q3, .inl (c3, 256, .inl (fun _ => 0)))] := X
  refine va_putF (D := D) (ci := 1) (v := .ref q3) (ty := (.array .boolean)) (C := zR_Me) (T := zT_Me) (N := 3) hx hb hts zi_Me zt_Me zo_Me zn_Me hown X.1 X.2.1 X.2.2.1 X.2.2.2.1 0 rfl rfl 2 (by decide) (hts _ zif_Me_init_17) (fun _ h9 => h9) rfl hin rfl (by decide +kernel) rfl rfl (Nat.le_of_ble_eq_true rfl) zd_Me_init_28 (fun H locs hP hD hS => ?_)
  have X : zz_X D vwCl [(c1, .int), (c2, .boolean), (c3, .boolean)] A s H locs [(h0, .inr (1, [.ref q1, .ref q2, .ref q3])), (q1, .inl (c1, 256, .inl (fun _ => 0))), (q2, .inl (c2, 256, .inl (fun _ => 0))), (q3, .inl (c3, 256, .inl (fun _ => 0)))] := ⟨X.1, hP, hD, hS, X.2.2.2.2⟩
  have e2 : c2 = c3 := zc_uZ X.1 1 2 rfl rfl
  subst e2
  have X : zz_X D vwCl (zz_tys c1 c2) A s H locs (wE (fun k => match k with | 0 => h0 | 1 => q1 | 2 => q2 | _ => q3) c1 c2 (fun _ _ => 0)) := ⟨X.1.sub [0, 1] rfl, X.2⟩
  refine zw_E_Me_init_b31 (q := (fun k => match k with | 0 => h0 | 1 => q1 | 2 => q2 | _ => q3)) (cI := c1) (cZ := c2) (out := out) hx hb hown hts (fun H locs ls X hl => ?_) (fun _ _ => 0) _ _ _ X (lv_sub hl [0] rfl) hf
  exact zr_cret hx hb hr hlocks ((fun k => match k with | 0 => q1 | 1 => q2 | _ => q3), c1, c2, out) rfl X rfl [0, 1] rfl ⟨Nat.le_of_ble_eq_true rfl, Nat.le_of_ble_eq_true rfl⟩ zd_Me_init_83

set_option maxRecDepth 100000 in
set_option maxHeartbeats 4000000 in
theorem zw_G_Re_clear_L2 {p : Program} {l : Launch} {e : Env} {s : State} {m : MethodId} {args : Array Value} {below : List Frame} {meth : Method} {c : Code} {D : va_G} {q : Nat → Nat} {cI cZ : ClassId} {A : Nat → Prop} (hx : p.tables.exec = Jvm.exec) (hb : c.code = zc_Re_clear) (hml : c.maxLocals = 2) (hown : s.vm.findClass zR_Re = some m.cls) (hts : ∀ w ∈ zz_WS, w.before args s = true) (hr : meth.sig.returnType = none) (hlocks : meth.locks = false) (out : St) (kx : St → Option St) (hkx : ∀ (σ : St) (H : Heap) (locs : List Loc) (ls : Array Slot), zz_X D vwCl [(cI, .int)] A s H locs ((wG q cI cZ) σ) → lv_has ls 2 [] → kx σ = some out → W p l e zm_Re_clear s m args below meth c H locs 0 0 (MQ below (zq_V D vwCl [(cI, .int)] (wG q cI cZ) A out) args s 0 0 A) (F0 m 29 ls [])) : ∀ (n : Nat) (σ : St) (x1 : Int32) (H : Heap) (locs : List Loc) (ls : Array Slot), zz_X D vwCl [(cI, .int)] A s H locs ((wG q cI cZ) σ) → lv_has ls 2 [(0, .ref (q 0)), (1, .int x1)] → zf_G_Re_clear_L2 kx n σ x1 = some out → W p l e zm_Re_clear s m args below meth c H locs 0 0 (MQ below (zq_V D vwCl [(cI, .int)] (wG q cI cZ) A out) args s 0 0 A) (F0 m 2 ls []) := by
  intro n
  induction n with
  | zero =>
    intro σ x1 H locs ls X hl hf
    exact absurd hf (by simp [zf_G_Re_clear_L2])
  | succ n ih =>
    intro σ x1 H locs ls X hl hf
    rw [zf_G_Re_clear_L2] at hf
    refine lv_iload_n hx hb zd_Re_clear_2 rfl (lv_at hl 1 rfl) ?_
    refine lv_bipush (v := 8) hx hb zd_Re_clear_3 (by decide) ?_
    refine lv_icmp_ge (tgt := 29) hx hb zd_Re_clear_5 (by decide) (fun g1 => ?_) (fun g1 => ?_)
    · rw [if_pos g1] at hf
      exact hkx σ _ _ _ X (lv_sub hl [] rfl) hf
    · rw [if_neg g1] at hf
      refine lv_aload_n hx hb zd_Re_clear_8 rfl (lv_at hl 0 rfl) ?_
      refine zg_G_Re_values hx hb hts hown X zd_Re_clear_9 ?_
      refine lv_iload_n hx hb zd_Re_clear_12 rfl (lv_at hl 1 rfl) ?_
      refine lv_iconst (v := 0) hx hb zd_Re_clear_13 (by decide) ?_
      obtain ⟨hin, hf⟩ := zz_ck_some hf
      refine zs_G_Re_values hx hb X hin zd_Re_clear_14 (fun H locs X => ?_)
      refine lv_aload_n hx hb zd_Re_clear_15 rfl (lv_at hl 0 rfl) ?_
      refine zg_G_Re_known hx hb hts hown X zd_Re_clear_16 ?_
      refine lv_iload_n hx hb zd_Re_clear_19 rfl (lv_at hl 1 rfl) ?_
      refine lv_bipush (v := 15) hx hb zd_Re_clear_20 (by decide) ?_
      obtain ⟨hin, hf⟩ := zz_ck_some hf
      refine zs_G_Re_known hx hb X hin zd_Re_clear_22 (fun H locs X => ?_)
      refine lv_iinc (v := (x1 + (1 : Int32))) (lv' := [(1, .int (x1 + (1 : Int32))), (0, .ref (q 0))]) hx hb zd_Re_clear_23 hl (k := 1) rfl rfl (by decide) rfl (fun ls hl => ?_)
      refine lv_goto (tgt := 2) hx hb zd_Re_clear_26 (by decide) ?_
      exact ih (zz_put (zz_put σ 0 x1.toNatClampNeg (0 : Int32)) 1 x1.toNatClampNeg (15 : Int32)) (x1 + (1 : Int32)) _ _ _ X (lv_sub hl [1, 0] rfl) hf

set_option maxRecDepth 100000 in
set_option maxHeartbeats 4000000 in
theorem zk_G_Re_clear (l : Launch) (D : va_G) (q : Nat → Nat) (cI cZ : ClassId) {σ : St} {out : St} (hf : zf_G_Re_clear σ = some out) : zV l D vwCl [(cI, .int)] (wG q cI cZ) zy_Re_clear (.code zy_Re_clear zc_Re_clear 2 none :: zz_WS) zm_Re_clear [.ref (q 0)] σ out := by
  refine zV_of (by decide +kernel) (Nat.le_of_ble_eq_true rfl) (fun p e s m below meth c A ls hx hb hml hown hts hr hlocks X hl => ?_)
  have hl : lv_has ls 2 [(0, .ref (q 0))] := hl
  unfold zf_G_Re_clear at hf
  refine lv_iconst (v := 0) hx hb zd_Re_clear_0 (by decide) ?_
  refine lv_istore_n (lv' := [(1, .int (0 : Int32)), (0, .ref (q 0))]) hx hb zd_Re_clear_1 rfl hl (by decide) rfl (fun ls hl => ?_)
  refine zw_G_Re_clear_L2 hx hb hml hown hts hr hlocks out _ (fun s2 H locs ls X hl hf => ?_) 300 σ (0 : Int32) _ _ _ X (lv_sub hl [1, 0] rfl) hf
  exact zr_vret hx hb hr hlocks X (Option.some.inj hf) zd_Re_clear_29

set_option maxRecDepth 100000 in
set_option maxHeartbeats 4000000 in
theorem zk_Re_init (l : Launch) (D : va_G) (h0 : Nat) {out : St} (hf : zf_G_Re_clear (fun _ _ => 0) = some out) : zC l D vwCl (fun u => [(u.2.1, .int)]) (zwC_Re h0) zy_Re_init (.code zy_Re_init zc_Re_init 1 none :: zz_WS) zm_Re_init [.ref h0] [(h0, .inr (2, [.null, .null]))] (fun u => u.2.2.2 = (fun v => out (v - 3))) 2 16 := by
  refine zC_of (by decide +kernel) (Nat.le_of_ble_eq_true rfl) (fun p e s m below meth c A ls hx hb hml hown hts hr hlocks hin X hl => ?_)
  have hl : lv_has ls 1 [(0, .ref h0)] := hl
  refine lv_aload_n hx hb zd_Re_init_0 rfl (lv_at hl 0 rfl) ?_
  refine W.objInit hx hb hown (hts _ zio_Re_init) (hts _ zo_inst) (hts _ zo_code) rfl (by rw [hml]; exact hl.1) rfl zd_Re_init_1 (Nat.le_of_ble_eq_true rfl) (Nat.le_of_ble_eq_true rfl) ?_
  refine W.eq (g2 := F0 m 4 ls []) rfl ?_
  refine lv_aload_n hx hb zd_Re_init_4 rfl (lv_at hl 0 rfl) ?_
  refine lv_bipush (v := 8) hx hb zd_Re_init_5 (by decide) ?_
  refine zr_newa (atype := .int) (ty := .int) (N' := 8) (a0 := (8, .inl (fun _ => 0))) rfl hx hb hts zo_aI X (fun cA => rfl) (by decide) (by decide) (by decide) ⟨Nat.le_of_ble_eq_true rfl, Nat.le_of_ble_eq_true rfl⟩ zd_Re_init_7 (fun q1 c1 H X => ?_)
  have X : zz_X D vwCl [(c1, .int)] A s H _ [(h0, .inr (2, [.null, .null])), (q1, .inl (c1, 8, .inl (fun _ => 0)))] := X
  refine va_putF (D := D) (ci := 2) (v := .ref q1) (ty := (.array .int)) (C := zR_Re) (T := zT_Re) (N := 2) hx hb hts zi_Re zt_Re zo_Re zn_Re hown X.1 X.2.1 X.2.2.1 X.2.2.2.1 0 rfl rfl 0 (by decide) (hts _ zif_Re_init_9) (fun _ h9 => h9) rfl hin rfl (by decide +kernel) rfl rfl (Nat.le_of_ble_eq_true rfl) zd_Re_init_9 (fun H locs hP hD hS => ?_)
  have X : zz_X D vwCl [(c1, .int)] A s H locs [(h0, .inr (2, [.ref q1, .null])), (q1, .inl (c1, 8, .inl (fun _ => 0)))] := ⟨X.1, hP, hD, hS, X.2.2.2.2⟩
  refine lv_aload_n hx hb zd_Re_init_12 rfl (lv_at hl 0 rfl) ?_
  refine lv_bipush (v := 8) hx hb zd_Re_init_13 (by decide) ?_
  refine zr_newa (atype := .int) (ty := .int) (N' := 8) (a0 := (8, .inl (fun _ => 0))) rfl hx hb hts zo_aI X (fun cA => rfl) (by decide) (by decide) (by decide) ⟨Nat.le_of_ble_eq_true rfl, Nat.le_of_ble_eq_true rfl⟩ zd_Re_init_15 (fun q2 c2 H X => ?_)
  have X : zz_X D vwCl [(c1, .int), (c2, .int)] A s H _ [(h0, .inr (2, [.ref q1, .null])), (q1, .inl (c1, 8, .inl (fun _ => 0))), (q2, .inl (c2, 8, .inl (fun _ => 0)))] := X
  refine va_putF (D := D) (ci := 2) (v := .ref q2) (ty := (.array .int)) (C := zR_Re) (T := zT_Re) (N := 2) hx hb hts zi_Re zt_Re zo_Re zn_Re hown X.1 X.2.1 X.2.2.1 X.2.2.2.1 0 rfl rfl 1 (by decide) (hts _ zif_Re_init_13) (fun _ h9 => h9) rfl hin rfl (by decide +kernel) rfl rfl (Nat.le_of_ble_eq_true rfl) zd_Re_init_17 (fun H locs hP hD hS => ?_)
  have X : zz_X D vwCl [(c1, .int), (c2, .int)] A s H locs [(h0, .inr (2, [.ref q1, .ref q2])), (q1, .inl (c1, 8, .inl (fun _ => 0))), (q2, .inl (c2, 8, .inl (fun _ => 0)))] := ⟨X.1, hP, hD, hS, X.2.2.2.2⟩
  refine lv_aload_n hx hb zd_Re_init_20 rfl (lv_at hl 0 rfl) ?_
  have e1 : c1 = c2 := zc_uI X.1 0 1 rfl rfl
  subst e1
  have X : zz_X D vwCl [(c1, .int)] A s H locs (wG (fun k => match k with | 0 => h0 | 1 => q1 | _ => q2) c1 c1 (fun _ _ => 0)) := ⟨X.1.sub [0] rfl, X.2⟩
  refine zr_cvVg (w := wG (fun k => match k with | 0 => h0 | 1 => q1 | _ => q2) c1 c1) (As := []) (rest := []) (q0 := 0) (ci := 2) hx hb hml hown hts hl.1 X (zk_G_Re_clear l D (fun k => match k with | 0 => h0 | 1 => q1 | _ => q2) c1 c1 hf) zkw_Re_clear zl_Re_16 rfl rfl (Nat.le_of_ble_eq_true rfl) rfl rfl ⟨rfl, rfl⟩ ⟨Nat.le_of_ble_eq_true rfl, Nat.le_of_ble_eq_true rfl⟩ ⟨Nat.le_of_ble_eq_true rfl, Nat.le_of_ble_eq_true rfl⟩ zd_Re_init_21 (fun H locs X => ?_)
  exact zr_cret hx hb hr hlocks ((fun k => match k with | 0 => q1 | _ => q2), c1, c1, (fun v => out (v - 3))) rfl X rfl [0] rfl ⟨Nat.le_of_ble_eq_true rfl, Nat.le_of_ble_eq_true rfl⟩ zd_Re_init_24

set_option maxRecDepth 100000 in
set_option maxHeartbeats 4000000 in
theorem zk_Pr_init (l : Launch) (D : va_G) (h0 : Nat) : zC l D vwCl (fun u => [(u.2.1, .int)]) (zwC_Pr h0) zy_Pr_init (.code zy_Pr_init zc_Pr_init 1 none :: zz_WS) zm_Pr_init [.ref h0] [(h0, .inr (3, [.null, .null, .null, .null, .null]))] (fun u => u.2.2.2 = (fun _ _ => 0)) 5 160 := by
  refine zC_of (by decide +kernel) (Nat.le_of_ble_eq_true rfl) (fun p e s m below meth c A ls hx hb hml hown hts hr hlocks hin X hl => ?_)
  have hl : lv_has ls 1 [(0, .ref h0)] := hl
  refine lv_aload_n hx hb zd_Pr_init_0 rfl (lv_at hl 0 rfl) ?_
  refine W.objInit hx hb hown (hts _ zio_Pr_init) (hts _ zo_inst) (hts _ zo_code) rfl (by rw [hml]; exact hl.1) rfl zd_Pr_init_1 (Nat.le_of_ble_eq_true rfl) (Nat.le_of_ble_eq_true rfl) ?_
  refine W.eq (g2 := F0 m 4 ls []) rfl ?_
  refine lv_aload_n hx hb zd_Pr_init_4 rfl (lv_at hl 0 rfl) ?_
  refine lv_bipush (v := 32) hx hb zd_Pr_init_5 (by decide) ?_
  refine zr_newa (atype := .int) (ty := .int) (N' := 32) (a0 := (32, .inl (fun _ => 0))) rfl hx hb hts zo_aI X (fun cA => rfl) (by decide) (by decide) (by decide) ⟨Nat.le_of_ble_eq_true rfl, Nat.le_of_ble_eq_true rfl⟩ zd_Pr_init_7 (fun q1 c1 H X => ?_)
  have X : zz_X D vwCl [(c1, .int)] A s H _ [(h0, .inr (3, [.null, .null, .null, .null, .null])), (q1, .inl (c1, 32, .inl (fun _ => 0)))] := X
  refine va_putF (D := D) (ci := 3) (v := .ref q1) (ty := (.array .int)) (C := zR_Pr) (T := zT_Pr) (N := 5) hx hb hts zi_Pr zt_Pr zo_Pr zn_Pr hown X.1 X.2.1 X.2.2.1 X.2.2.2.1 0 rfl rfl 0 (by decide) (hts _ zif_Pr_init_9) (fun _ h9 => h9) rfl hin rfl (by decide +kernel) rfl rfl (Nat.le_of_ble_eq_true rfl) zd_Pr_init_9 (fun H locs hP hD hS => ?_)
  have X : zz_X D vwCl [(c1, .int)] A s H locs [(h0, .inr (3, [.ref q1, .null, .null, .null, .null])), (q1, .inl (c1, 32, .inl (fun _ => 0)))] := ⟨X.1, hP, hD, hS, X.2.2.2.2⟩
  refine lv_aload_n hx hb zd_Pr_init_12 rfl (lv_at hl 0 rfl) ?_
  refine lv_bipush (v := 32) hx hb zd_Pr_init_13 (by decide) ?_
  refine zr_newa (atype := .int) (ty := .int) (N' := 32) (a0 := (32, .inl (fun _ => 0))) rfl hx hb hts zo_aI X (fun cA => rfl) (by decide) (by decide) (by decide) ⟨Nat.le_of_ble_eq_true rfl, Nat.le_of_ble_eq_true rfl⟩ zd_Pr_init_15 (fun q2 c2 H X => ?_)
  have X : zz_X D vwCl [(c1, .int), (c2, .int)] A s H _ [(h0, .inr (3, [.ref q1, .null, .null, .null, .null])), (q1, .inl (c1, 32, .inl (fun _ => 0))), (q2, .inl (c2, 32, .inl (fun _ => 0)))] := X
  refine va_putF (D := D) (ci := 3) (v := .ref q2) (ty := (.array .int)) (C := zR_Pr) (T := zT_Pr) (N := 5) hx hb hts zi_Pr zt_Pr zo_Pr zn_Pr hown X.1 X.2.1 X.2.2.1 X.2.2.2.1 0 rfl rfl 1 (by decide) (hts _ zif_Pr_init_13) (fun _ h9 => h9) rfl hin rfl (by decide +kernel) rfl rfl (Nat.le_of_ble_eq_true rfl) zd_Pr_init_17 (fun H locs hP hD hS => ?_)
  have X : zz_X D vwCl [(c1, .int), (c2, .int)] A s H locs [(h0, .inr (3, [.ref q1, .ref q2, .null, .null, .null])), (q1, .inl (c1, 32, .inl (fun _ => 0))), (q2, .inl (c2, 32, .inl (fun _ => 0)))] := ⟨X.1, hP, hD, hS, X.2.2.2.2⟩
  refine lv_aload_n hx hb zd_Pr_init_20 rfl (lv_at hl 0 rfl) ?_
  refine lv_bipush (v := 32) hx hb zd_Pr_init_21 (by decide) ?_
  refine zr_newa (atype := .int) (ty := .int) (N' := 32) (a0 := (32, .inl (fun _ => 0))) rfl hx hb hts zo_aI X (fun cA => rfl) (by decide) (by decide) (by decide) ⟨Nat.le_of_ble_eq_true rfl, Nat.le_of_ble_eq_true rfl⟩ zd_Pr_init_23 (fun q3 c3 H X => ?_)
  have X : zz_X D vwCl [(c1, .int), (c2, .int), (c3, .int)] A s H _ [(h0, .inr (3, [.ref q1, .ref q2, .null, .null, .null])), (q1, .inl (c1, 32, .inl (fun _ => 0))), (q2, .inl (c2, 32, .inl (fun _ => 0))), (q3, .inl (c3, 32, .inl (fun _ => 0)))] := X
  refine va_putF (D := D) (ci := 3) (v := .ref q3) (ty := (.array .int)) (C := zR_Pr) (T := zT_Pr) (N := 5) hx hb hts zi_Pr zt_Pr zo_Pr zn_Pr hown X.1 X.2.1 X.2.2.1 X.2.2.2.1 0 rfl rfl 2 (by decide) (hts _ zif_Pr_init_16) (fun _ h9 => h9) rfl hin rfl (by decide +kernel) rfl rfl (Nat.le_of_ble_eq_true rfl) zd_Pr_init_25 (fun H locs hP hD hS => ?_)
  have X : zz_X D vwCl [(c1, .int), (c2, .int), (c3, .int)] A s H locs [(h0, .inr (3, [.ref q1, .ref q2, .ref q3, .null, .null])), (q1, .inl (c1, 32, .inl (fun _ => 0))), (q2, .inl (c2, 32, .inl (fun _ => 0))), (q3, .inl (c3, 32, .inl (fun _ => 0)))] := ⟨X.1, hP, hD, hS, X.2.2.2.2⟩
  refine lv_aload_n hx hb zd_Pr_init_28 rfl (lv_at hl 0 rfl) ?_
  refine lv_bipush (v := 32) hx hb zd_Pr_init_29 (by decide) ?_
  refine zr_newa (atype := .int) (ty := .int) (N' := 32) (a0 := (32, .inl (fun _ => 0))) rfl hx hb hts zo_aI X (fun cA => rfl) (by decide) (by decide) (by decide) ⟨Nat.le_of_ble_eq_true rfl, Nat.le_of_ble_eq_true rfl⟩ zd_Pr_init_31 (fun q4 c4 H X => ?_)
  have X : zz_X D vwCl [(c1, .int), (c2, .int), (c3, .int), (c4, .int)] A s H _ [(h0, .inr (3, [.ref q1, .ref q2, .ref q3, .null, .null])), (q1, .inl (c1, 32, .inl (fun _ => 0))), (q2, .inl (c2, 32, .inl (fun _ => 0))), (q3, .inl (c3, 32, .inl (fun _ => 0))), (q4, .inl (c4, 32, .inl (fun _ => 0)))] := X
  refine va_putF (D := D) (ci := 3) (v := .ref q4) (ty := (.array .int)) (C := zR_Pr) (T := zT_Pr) (N := 5) hx hb hts zi_Pr zt_Pr zo_Pr zn_Pr hown X.1 X.2.1 X.2.2.1 X.2.2.2.1 0 rfl rfl 3 (by decide) (hts _ zif_Pr_init_19) (fun _ h9 => h9) rfl hin rfl (by decide +kernel) rfl rfl (Nat.le_of_ble_eq_true rfl) zd_Pr_init_33 (fun H locs hP hD hS => ?_)
  have X : zz_X D vwCl [(c1, .int), (c2, .int), (c3, .int), (c4, .int)] A s H locs [(h0, .inr (3, [.ref q1, .ref q2, .ref q3, .ref q4, .null])), (q1, .inl (c1, 32, .inl (fun _ => 0))), (q2, .inl (c2, 32, .inl (fun _ => 0))), (q3, .inl (c3, 32, .inl (fun _ => 0))), (q4, .inl (c4, 32, .inl (fun _ => 0)))] := ⟨X.1, hP, hD, hS, X.2.2.2.2⟩
  refine lv_aload_n hx hb zd_Pr_init_36 rfl (lv_at hl 0 rfl) ?_
  refine lv_bipush (v := 32) hx hb zd_Pr_init_37 (by decide) ?_
  refine zr_newa (atype := .int) (ty := .int) (N' := 32) (a0 := (32, .inl (fun _ => 0))) rfl hx hb hts zo_aI X (fun cA => rfl) (by decide) (by decide) (by decide) ⟨Nat.le_of_ble_eq_true rfl, Nat.le_of_ble_eq_true rfl⟩ zd_Pr_init_39 (fun q5 c5 H X => ?_)
  have X : zz_X D vwCl [(c1, .int), (c2, .int), (c3, .int), (c4, .int), (c5, .int)] A s H _ [(h0, .inr (3, [.ref q1, .ref q2, .ref q3, .ref q4, .null])), (q1, .inl (c1, 32, .inl (fun _ => 0))), (q2, .inl (c2, 32, .inl (fun _ => 0))), (q3, .inl (c3, 32, .inl (fun _ => 0))), (q4, .inl (c4, 32, .inl (fun _ => 0))), (q5, .inl (c5, 32, .inl (fun _ => 0)))] := X
  refine va_putF (D := D) (ci := 3) (v := .ref q5) (ty := (.array .int)) (C := zR_Pr) (T := zT_Pr) (N := 5) hx hb hts zi_Pr zt_Pr zo_Pr zn_Pr hown X.1 X.2.1 X.2.2.1 X.2.2.2.1 0 rfl rfl 4 (by decide) (hts _ zif_Pr_init_22) (fun _ h9 => h9) rfl hin rfl (by decide +kernel) rfl rfl (Nat.le_of_ble_eq_true rfl) zd_Pr_init_41 (fun H locs hP hD hS => ?_)
  have X : zz_X D vwCl [(c1, .int), (c2, .int), (c3, .int), (c4, .int), (c5, .int)] A s H locs [(h0, .inr (3, [.ref q1, .ref q2, .ref q3, .ref q4, .ref q5])), (q1, .inl (c1, 32, .inl (fun _ => 0))), (q2, .inl (c2, 32, .inl (fun _ => 0))), (q3, .inl (c3, 32, .inl (fun _ => 0))), (q4, .inl (c4, 32, .inl (fun _ => 0))), (q5, .inl (c5, 32, .inl (fun _ => 0)))] := ⟨X.1, hP, hD, hS, X.2.2.2.2⟩
  have e1 : c1 = c2 := zc_uI X.1 0 1 rfl rfl
  have e2 : c1 = c3 := zc_uI X.1 0 2 rfl rfl
  have e3 : c1 = c4 := zc_uI X.1 0 3 rfl rfl
  have e4 : c1 = c5 := zc_uI X.1 0 4 rfl rfl
  subst e1
  subst e2
  subst e3
  subst e4
  exact zr_cret hx hb hr hlocks ((fun k => match k with | 0 => q1 | 1 => q2 | 2 => q3 | 3 => q4 | _ => q5), c1, 0, (fun _ _ => 0)) rfl X rfl [0] rfl ⟨Nat.le_of_ble_eq_true rfl, Nat.le_of_ble_eq_true rfl⟩ zd_Pr_init_44

set_option maxRecDepth 100000 in
set_option maxHeartbeats 4000000 in
theorem zk_Pi_init (l : Launch) (D : va_G) (h0 h1 : Nat) : zC l D vwCl (fun u => [(u.2.1, .int)]) (zwC_Pi h0 h1) zy_Pi_init (.code zy_Pi_init zc_Pi_init 2 none :: zz_WS) zm_Pi_init [.ref h0, .ref h1] [(h0, .inr (4, [.null, .null, .int 0, .int 0]))] (fun u => u.2.2.2 = (fun _ _ => 0)) 1 32 := by
  refine zC_of (by decide +kernel) (Nat.le_of_ble_eq_true rfl) (fun p e s m below meth c A ls hx hb hml hown hts hr hlocks hin X hl => ?_)
  have hl : lv_has ls 2 [(0, .ref h0), (1, .ref h1)] := hl
  refine lv_aload_n hx hb zd_Pi_init_0 rfl (lv_at hl 0 rfl) ?_
  refine W.objInit hx hb hown (hts _ zio_Pi_init) (hts _ zo_inst) (hts _ zo_code) rfl (by rw [hml]; exact hl.1) rfl zd_Pi_init_1 (Nat.le_of_ble_eq_true rfl) (Nat.le_of_ble_eq_true rfl) ?_
  refine W.eq (g2 := F0 m 4 ls []) rfl ?_
  refine lv_aload_n hx hb zd_Pi_init_4 rfl (lv_at hl 0 rfl) ?_
  refine lv_aload_n hx hb zd_Pi_init_5 rfl (lv_at hl 1 rfl) ?_
  refine va_putF (D := D) (ci := 4) (v := .ref h1) (ty := (.object "ShadowWarden$Program")) (C := zR_Pi) (T := zT_Pi) (N := 4) hx hb hts zi_Pi zt_Pi zo_Pi zn_Pi hown X.1 X.2.1 X.2.2.1 X.2.2.2.1 0 rfl rfl 0 (by decide) (hts _ zif_Pi_init_7) (fun _ h9 => h9) rfl hin rfl (by decide +kernel) rfl rfl (Nat.le_of_ble_eq_true rfl) zd_Pi_init_6 (fun H locs hP hD hS => ?_)
  have X : zz_X D vwCl [] A s H locs [(h0, .inr (4, [.ref h1, .null, .int 0, .int 0]))] := ⟨X.1, hP, hD, hS, X.2.2.2.2⟩
  refine lv_aload_n hx hb zd_Pi_init_9 rfl (lv_at hl 0 rfl) ?_
  refine lv_bipush (v := 32) hx hb zd_Pi_init_10 (by decide) ?_
  refine zr_newa (atype := .int) (ty := .int) (N' := 32) (a0 := (32, .inl (fun _ => 0))) rfl hx hb hts zo_aI X (fun cA => rfl) (by decide) (by decide) (by decide) ⟨Nat.le_of_ble_eq_true rfl, Nat.le_of_ble_eq_true rfl⟩ zd_Pi_init_12 (fun q1 c1 H X => ?_)
  have X : zz_X D vwCl [(c1, .int)] A s H _ [(h0, .inr (4, [.ref h1, .null, .int 0, .int 0])), (q1, .inl (c1, 32, .inl (fun _ => 0)))] := X
  refine va_putF (D := D) (ci := 4) (v := .ref q1) (ty := (.array .int)) (C := zR_Pi) (T := zT_Pi) (N := 4) hx hb hts zi_Pi zt_Pi zo_Pi zn_Pi hown X.1 X.2.1 X.2.2.1 X.2.2.2.1 0 rfl rfl 1 (by decide) (hts _ zif_Pi_init_15) (fun _ h9 => h9) rfl hin rfl (by decide +kernel) rfl rfl (Nat.le_of_ble_eq_true rfl) zd_Pi_init_14 (fun H locs hP hD hS => ?_)
  have X : zz_X D vwCl [(c1, .int)] A s H locs [(h0, .inr (4, [.ref h1, .ref q1, .int 0, .int 0])), (q1, .inl (c1, 32, .inl (fun _ => 0)))] := ⟨X.1, hP, hD, hS, X.2.2.2.2⟩
  exact zr_cret hx hb hr hlocks ((fun k => match k with | _ => q1), c1, 0, (fun _ _ => 0)) rfl X rfl [0] rfl ⟨Nat.le_of_ble_eq_true rfl, Nat.le_of_ble_eq_true rfl⟩ zd_Pi_init_17

set_option maxRecDepth 100000 in
set_option maxHeartbeats 4000000 in
theorem zk_Fi_init (l : Launch) (D : va_G) (h0 : Nat) : zC l D vwCl (fun u => [(u.2.1, .int)]) (zwC_Fi h0) zy_Fi_init (.code zy_Fi_init zc_Fi_init 1 none :: zz_WS) zm_Fi_init [.ref h0] [(h0, .inr (5, [.null, .null, .null, .null, .int 0]))] (fun u => u.2.2.2 = (fun _ _ => 0)) 4 96 := by
  refine zC_of (by decide +kernel) (Nat.le_of_ble_eq_true rfl) (fun p e s m below meth c A ls hx hb hml hown hts hr hlocks hin X hl => ?_)
  have hl : lv_has ls 1 [(0, .ref h0)] := hl
  refine lv_aload_n hx hb zd_Fi_init_0 rfl (lv_at hl 0 rfl) ?_
  refine W.objInit hx hb hown (hts _ zio_Fi_init) (hts _ zo_inst) (hts _ zo_code) rfl (by rw [hml]; exact hl.1) rfl zd_Fi_init_1 (Nat.le_of_ble_eq_true rfl) (Nat.le_of_ble_eq_true rfl) ?_
  refine W.eq (g2 := F0 m 4 ls []) rfl ?_
  refine lv_aload_n hx hb zd_Fi_init_4 rfl (lv_at hl 0 rfl) ?_
  refine lv_bipush (v := 24) hx hb zd_Fi_init_5 (by decide) ?_
  refine zr_newa (atype := .int) (ty := .int) (N' := 24) (a0 := (24, .inl (fun _ => 0))) rfl hx hb hts zo_aI X (fun cA => rfl) (by decide) (by decide) (by decide) ⟨Nat.le_of_ble_eq_true rfl, Nat.le_of_ble_eq_true rfl⟩ zd_Fi_init_7 (fun q1 c1 H X => ?_)
  have X : zz_X D vwCl [(c1, .int)] A s H _ [(h0, .inr (5, [.null, .null, .null, .null, .int 0])), (q1, .inl (c1, 24, .inl (fun _ => 0)))] := X
  refine va_putF (D := D) (ci := 5) (v := .ref q1) (ty := (.array .int)) (C := zR_Fi) (T := zT_Fi) (N := 5) hx hb hts zi_Fi zt_Fi zo_Fi zn_Fi hown X.1 X.2.1 X.2.2.1 X.2.2.2.1 0 rfl rfl 0 (by decide) (hts _ zif_Fi_init_9) (fun _ h9 => h9) rfl hin rfl (by decide +kernel) rfl rfl (Nat.le_of_ble_eq_true rfl) zd_Fi_init_9 (fun H locs hP hD hS => ?_)
  have X : zz_X D vwCl [(c1, .int)] A s H locs [(h0, .inr (5, [.ref q1, .null, .null, .null, .int 0])), (q1, .inl (c1, 24, .inl (fun _ => 0)))] := ⟨X.1, hP, hD, hS, X.2.2.2.2⟩
  refine lv_aload_n hx hb zd_Fi_init_12 rfl (lv_at hl 0 rfl) ?_
  refine lv_bipush (v := 24) hx hb zd_Fi_init_13 (by decide) ?_
  refine zr_newa (atype := .int) (ty := .int) (N' := 24) (a0 := (24, .inl (fun _ => 0))) rfl hx hb hts zo_aI X (fun cA => rfl) (by decide) (by decide) (by decide) ⟨Nat.le_of_ble_eq_true rfl, Nat.le_of_ble_eq_true rfl⟩ zd_Fi_init_15 (fun q2 c2 H X => ?_)
  have X : zz_X D vwCl [(c1, .int), (c2, .int)] A s H _ [(h0, .inr (5, [.ref q1, .null, .null, .null, .int 0])), (q1, .inl (c1, 24, .inl (fun _ => 0))), (q2, .inl (c2, 24, .inl (fun _ => 0)))] := X
  refine va_putF (D := D) (ci := 5) (v := .ref q2) (ty := (.array .int)) (C := zR_Fi) (T := zT_Fi) (N := 5) hx hb hts zi_Fi zt_Fi zo_Fi zn_Fi hown X.1 X.2.1 X.2.2.1 X.2.2.2.1 0 rfl rfl 1 (by decide) (hts _ zif_Fi_init_13) (fun _ h9 => h9) rfl hin rfl (by decide +kernel) rfl rfl (Nat.le_of_ble_eq_true rfl) zd_Fi_init_17 (fun H locs hP hD hS => ?_)
  have X : zz_X D vwCl [(c1, .int), (c2, .int)] A s H locs [(h0, .inr (5, [.ref q1, .ref q2, .null, .null, .int 0])), (q1, .inl (c1, 24, .inl (fun _ => 0))), (q2, .inl (c2, 24, .inl (fun _ => 0)))] := ⟨X.1, hP, hD, hS, X.2.2.2.2⟩
  refine lv_aload_n hx hb zd_Fi_init_20 rfl (lv_at hl 0 rfl) ?_
  refine lv_bipush (v := 24) hx hb zd_Fi_init_21 (by decide) ?_
  refine zr_newa (atype := .int) (ty := .int) (N' := 24) (a0 := (24, .inl (fun _ => 0))) rfl hx hb hts zo_aI X (fun cA => rfl) (by decide) (by decide) (by decide) ⟨Nat.le_of_ble_eq_true rfl, Nat.le_of_ble_eq_true rfl⟩ zd_Fi_init_23 (fun q3 c3 H X => ?_)
  have X : zz_X D vwCl [(c1, .int), (c2, .int), (c3, .int)] A s H _ [(h0, .inr (5, [.ref q1, .ref q2, .null, .null, .int 0])), (q1, .inl (c1, 24, .inl (fun _ => 0))), (q2, .inl (c2, 24, .inl (fun _ => 0))), (q3, .inl (c3, 24, .inl (fun _ => 0)))] := X
  refine va_putF (D := D) (ci := 5) (v := .ref q3) (ty := (.array .int)) (C := zR_Fi) (T := zT_Fi) (N := 5) hx hb hts zi_Fi zt_Fi zo_Fi zn_Fi hown X.1 X.2.1 X.2.2.1 X.2.2.2.1 0 rfl rfl 2 (by decide) (hts _ zif_Fi_init_16) (fun _ h9 => h9) rfl hin rfl (by decide +kernel) rfl rfl (Nat.le_of_ble_eq_true rfl) zd_Fi_init_25 (fun H locs hP hD hS => ?_)
  have X : zz_X D vwCl [(c1, .int), (c2, .int), (c3, .int)] A s H locs [(h0, .inr (5, [.ref q1, .ref q2, .ref q3, .null, .int 0])), (q1, .inl (c1, 24, .inl (fun _ => 0))), (q2, .inl (c2, 24, .inl (fun _ => 0))), (q3, .inl (c3, 24, .inl (fun _ => 0)))] := ⟨X.1, hP, hD, hS, X.2.2.2.2⟩
  refine lv_aload_n hx hb zd_Fi_init_28 rfl (lv_at hl 0 rfl) ?_
  refine lv_bipush (v := 24) hx hb zd_Fi_init_29 (by decide) ?_
  refine zr_newa (atype := .int) (ty := .int) (N' := 24) (a0 := (24, .inl (fun _ => 0))) rfl hx hb hts zo_aI X (fun cA => rfl) (by decide) (by decide) (by decide) ⟨Nat.le_of_ble_eq_true rfl, Nat.le_of_ble_eq_true rfl⟩ zd_Fi_init_31 (fun q4 c4 H X => ?_)
  have X : zz_X D vwCl [(c1, .int), (c2, .int), (c3, .int), (c4, .int)] A s H _ [(h0, .inr (5, [.ref q1, .ref q2, .ref q3, .null, .int 0])), (q1, .inl (c1, 24, .inl (fun _ => 0))), (q2, .inl (c2, 24, .inl (fun _ => 0))), (q3, .inl (c3, 24, .inl (fun _ => 0))), (q4, .inl (c4, 24, .inl (fun _ => 0)))] := X
  refine va_putF (D := D) (ci := 5) (v := .ref q4) (ty := (.array .int)) (C := zR_Fi) (T := zT_Fi) (N := 5) hx hb hts zi_Fi zt_Fi zo_Fi zn_Fi hown X.1 X.2.1 X.2.2.1 X.2.2.2.1 0 rfl rfl 3 (by decide) (hts _ zif_Fi_init_19) (fun _ h9 => h9) rfl hin rfl (by decide +kernel) rfl rfl (Nat.le_of_ble_eq_true rfl) zd_Fi_init_33 (fun H locs hP hD hS => ?_)
  have X : zz_X D vwCl [(c1, .int), (c2, .int), (c3, .int), (c4, .int)] A s H locs [(h0, .inr (5, [.ref q1, .ref q2, .ref q3, .ref q4, .int 0])), (q1, .inl (c1, 24, .inl (fun _ => 0))), (q2, .inl (c2, 24, .inl (fun _ => 0))), (q3, .inl (c3, 24, .inl (fun _ => 0))), (q4, .inl (c4, 24, .inl (fun _ => 0)))] := ⟨X.1, hP, hD, hS, X.2.2.2.2⟩
  have e1 : c1 = c2 := zc_uI X.1 0 1 rfl rfl
  have e2 : c1 = c3 := zc_uI X.1 0 2 rfl rfl
  have e3 : c1 = c4 := zc_uI X.1 0 3 rfl rfl
  subst e1
  subst e2
  subst e3
  exact zr_cret hx hb hr hlocks ((fun k => match k with | 0 => q1 | 1 => q2 | 2 => q3 | _ => q4), c1, 0, (fun _ _ => 0)) rfl X rfl [0] rfl ⟨Nat.le_of_ble_eq_true rfl, Nat.le_of_ble_eq_true rfl⟩ zd_Fi_init_36

set_option maxRecDepth 100000 in
set_option maxHeartbeats 4000000 in
theorem zk_He_init (l : Launch) (D : va_G) (h0 h1 : Nat) : zC l D vwCl (fun u => [(u.2.1, .int)]) (zwC_He h0 h1) zy_He_init (.code zy_He_init zc_He_init 2 none :: zz_WS) zm_He_init [.ref h0, .ref h1] [(h0, .inr (6, [.null, .null, .null, .null, .null, .null, .int 0, .int 0, .int 0]))] (fun u => u.2.2.2 = (fun _ _ => 0)) 5 50 := by
  refine zC_of (by decide +kernel) (Nat.le_of_ble_eq_true rfl) (fun p e s m below meth c A ls hx hb hml hown hts hr hlocks hin X hl => ?_)
  have hl : lv_has ls 2 [(0, .ref h0), (1, .ref h1)] := hl
  refine lv_aload_n hx hb zd_He_init_0 rfl (lv_at hl 0 rfl) ?_
  refine W.objInit hx hb hown (hts _ zio_He_init) (hts _ zo_inst) (hts _ zo_code) rfl (by rw [hml]; exact hl.1) rfl zd_He_init_1 (Nat.le_of_ble_eq_true rfl) (Nat.le_of_ble_eq_true rfl) ?_
  refine W.eq (g2 := F0 m 4 ls []) rfl ?_
  refine lv_aload_n hx hb zd_He_init_4 rfl (lv_at hl 0 rfl) ?_
  refine lv_aload_n hx hb zd_He_init_5 rfl (lv_at hl 1 rfl) ?_
  refine va_putF (D := D) (ci := 6) (v := .ref h1) (ty := (.object "ShadowWarden$Memory")) (C := zR_He) (T := zT_He) (N := 9) hx hb hts zi_He zt_He zo_He zn_He hown X.1 X.2.1 X.2.2.1 X.2.2.2.1 0 rfl rfl 0 (by decide) (hts _ zif_He_init_7) (fun _ h9 => h9) rfl hin rfl (by decide +kernel) rfl rfl (Nat.le_of_ble_eq_true rfl) zd_He_init_6 (fun H locs hP hD hS => ?_)
  have X : zz_X D vwCl [] A s H locs [(h0, .inr (6, [.ref h1, .null, .null, .null, .null, .null, .int 0, .int 0, .int 0]))] := ⟨X.1, hP, hD, hS, X.2.2.2.2⟩
  refine lv_aload_n hx hb zd_He_init_9 rfl (lv_at hl 0 rfl) ?_
  refine lv_bipush (v := 10) hx hb zd_He_init_10 (by decide) ?_
  refine zr_newa (atype := .int) (ty := .int) (N' := 10) (a0 := (10, .inl (fun _ => 0))) rfl hx hb hts zo_aI X (fun cA => rfl) (by decide) (by decide) (by decide) ⟨Nat.le_of_ble_eq_true rfl, Nat.le_of_ble_eq_true rfl⟩ zd_He_init_12 (fun q1 c1 H X => ?_)
  have X : zz_X D vwCl [(c1, .int)] A s H _ [(h0, .inr (6, [.ref h1, .null, .null, .null, .null, .null, .int 0, .int 0, .int 0])), (q1, .inl (c1, 10, .inl (fun _ => 0)))] := X
  refine va_putF (D := D) (ci := 6) (v := .ref q1) (ty := (.array .int)) (C := zR_He) (T := zT_He) (N := 9) hx hb hts zi_He zt_He zo_He zn_He hown X.1 X.2.1 X.2.2.1 X.2.2.2.1 0 rfl rfl 1 (by decide) (hts _ zif_He_init_13) (fun _ h9 => h9) rfl hin rfl (by decide +kernel) rfl rfl (Nat.le_of_ble_eq_true rfl) zd_He_init_14 (fun H locs hP hD hS => ?_)
  have X : zz_X D vwCl [(c1, .int)] A s H locs [(h0, .inr (6, [.ref h1, .ref q1, .null, .null, .null, .null, .int 0, .int 0, .int 0])), (q1, .inl (c1, 10, .inl (fun _ => 0)))] := ⟨X.1, hP, hD, hS, X.2.2.2.2⟩
  refine lv_aload_n hx hb zd_He_init_17 rfl (lv_at hl 0 rfl) ?_
  refine lv_bipush (v := 10) hx hb zd_He_init_18 (by decide) ?_
  refine zr_newa (atype := .int) (ty := .int) (N' := 10) (a0 := (10, .inl (fun _ => 0))) rfl hx hb hts zo_aI X (fun cA => rfl) (by decide) (by decide) (by decide) ⟨Nat.le_of_ble_eq_true rfl, Nat.le_of_ble_eq_true rfl⟩ zd_He_init_20 (fun q2 c2 H X => ?_)
  have X : zz_X D vwCl [(c1, .int), (c2, .int)] A s H _ [(h0, .inr (6, [.ref h1, .ref q1, .null, .null, .null, .null, .int 0, .int 0, .int 0])), (q1, .inl (c1, 10, .inl (fun _ => 0))), (q2, .inl (c2, 10, .inl (fun _ => 0)))] := X
  refine va_putF (D := D) (ci := 6) (v := .ref q2) (ty := (.array .int)) (C := zR_He) (T := zT_He) (N := 9) hx hb hts zi_He zt_He zo_He zn_He hown X.1 X.2.1 X.2.2.1 X.2.2.2.1 0 rfl rfl 2 (by decide) (hts _ zif_He_init_17) (fun _ h9 => h9) rfl hin rfl (by decide +kernel) rfl rfl (Nat.le_of_ble_eq_true rfl) zd_He_init_22 (fun H locs hP hD hS => ?_)
  have X : zz_X D vwCl [(c1, .int), (c2, .int)] A s H locs [(h0, .inr (6, [.ref h1, .ref q1, .ref q2, .null, .null, .null, .int 0, .int 0, .int 0])), (q1, .inl (c1, 10, .inl (fun _ => 0))), (q2, .inl (c2, 10, .inl (fun _ => 0)))] := ⟨X.1, hP, hD, hS, X.2.2.2.2⟩
  refine lv_aload_n hx hb zd_He_init_25 rfl (lv_at hl 0 rfl) ?_
  refine lv_bipush (v := 10) hx hb zd_He_init_26 (by decide) ?_
  refine zr_newa (atype := .int) (ty := .int) (N' := 10) (a0 := (10, .inl (fun _ => 0))) rfl hx hb hts zo_aI X (fun cA => rfl) (by decide) (by decide) (by decide) ⟨Nat.le_of_ble_eq_true rfl, Nat.le_of_ble_eq_true rfl⟩ zd_He_init_28 (fun q3 c3 H X => ?_)
  have X : zz_X D vwCl [(c1, .int), (c2, .int), (c3, .int)] A s H _ [(h0, .inr (6, [.ref h1, .ref q1, .ref q2, .null, .null, .null, .int 0, .int 0, .int 0])), (q1, .inl (c1, 10, .inl (fun _ => 0))), (q2, .inl (c2, 10, .inl (fun _ => 0))), (q3, .inl (c3, 10, .inl (fun _ => 0)))] := X
  refine va_putF (D := D) (ci := 6) (v := .ref q3) (ty := (.array .int)) (C := zR_He) (T := zT_He) (N := 9) hx hb hts zi_He zt_He zo_He zn_He hown X.1 X.2.1 X.2.2.1 X.2.2.2.1 0 rfl rfl 3 (by decide) (hts _ zif_He_init_20) (fun _ h9 => h9) rfl hin rfl (by decide +kernel) rfl rfl (Nat.le_of_ble_eq_true rfl) zd_He_init_30 (fun H locs hP hD hS => ?_)
  have X : zz_X D vwCl [(c1, .int), (c2, .int), (c3, .int)] A s H locs [(h0, .inr (6, [.ref h1, .ref q1, .ref q2, .ref q3, .null, .null, .int 0, .int 0, .int 0])), (q1, .inl (c1, 10, .inl (fun _ => 0))), (q2, .inl (c2, 10, .inl (fun _ => 0))), (q3, .inl (c3, 10, .inl (fun _ => 0)))] := ⟨X.1, hP, hD, hS, X.2.2.2.2⟩
  refine lv_aload_n hx hb zd_He_init_33 rfl (lv_at hl 0 rfl) ?_
  refine lv_bipush (v := 10) hx hb zd_He_init_34 (by decide) ?_
  refine zr_newa (atype := .int) (ty := .int) (N' := 10) (a0 := (10, .inl (fun _ => 0))) rfl hx hb hts zo_aI X (fun cA => rfl) (by decide) (by decide) (by decide) ⟨Nat.le_of_ble_eq_true rfl, Nat.le_of_ble_eq_true rfl⟩ zd_He_init_36 (fun q4 c4 H X => ?_)
  have X : zz_X D vwCl [(c1, .int), (c2, .int), (c3, .int), (c4, .int)] A s H _ [(h0, .inr (6, [.ref h1, .ref q1, .ref q2, .ref q3, .null, .null, .int 0, .int 0, .int 0])), (q1, .inl (c1, 10, .inl (fun _ => 0))), (q2, .inl (c2, 10, .inl (fun _ => 0))), (q3, .inl (c3, 10, .inl (fun _ => 0))), (q4, .inl (c4, 10, .inl (fun _ => 0)))] := X
  refine va_putF (D := D) (ci := 6) (v := .ref q4) (ty := (.array .int)) (C := zR_He) (T := zT_He) (N := 9) hx hb hts zi_He zt_He zo_He zn_He hown X.1 X.2.1 X.2.2.1 X.2.2.2.1 0 rfl rfl 4 (by decide) (hts _ zif_He_init_23) (fun _ h9 => h9) rfl hin rfl (by decide +kernel) rfl rfl (Nat.le_of_ble_eq_true rfl) zd_He_init_38 (fun H locs hP hD hS => ?_)
  have X : zz_X D vwCl [(c1, .int), (c2, .int), (c3, .int), (c4, .int)] A s H locs [(h0, .inr (6, [.ref h1, .ref q1, .ref q2, .ref q3, .ref q4, .null, .int 0, .int 0, .int 0])), (q1, .inl (c1, 10, .inl (fun _ => 0))), (q2, .inl (c2, 10, .inl (fun _ => 0))), (q3, .inl (c3, 10, .inl (fun _ => 0))), (q4, .inl (c4, 10, .inl (fun _ => 0)))] := ⟨X.1, hP, hD, hS, X.2.2.2.2⟩
  refine lv_aload_n hx hb zd_He_init_41 rfl (lv_at hl 0 rfl) ?_
  refine lv_bipush (v := 10) hx hb zd_He_init_42 (by decide) ?_
  refine zr_newa (atype := .int) (ty := .int) (N' := 10) (a0 := (10, .inl (fun _ => 0))) rfl hx hb hts zo_aI X (fun cA => rfl) (by decide) (by decide) (by decide) ⟨Nat.le_of_ble_eq_true rfl, Nat.le_of_ble_eq_true rfl⟩ zd_He_init_44 (fun q5 c5 H X => ?_)
  have X : zz_X D vwCl [(c1, .int), (c2, .int), (c3, .int), (c4, .int), (c5, .int)] A s H _ [(h0, .inr (6, [.ref h1, .ref q1, .ref q2, .ref q3, .ref q4, .null, .int 0, .int 0, .int 0])), (q1, .inl (c1, 10, .inl (fun _ => 0))), (q2, .inl (c2, 10, .inl (fun _ => 0))), (q3, .inl (c3, 10, .inl (fun _ => 0))), (q4, .inl (c4, 10, .inl (fun _ => 0))), (q5, .inl (c5, 10, .inl (fun _ => 0)))] := X
  refine va_putF (D := D) (ci := 6) (v := .ref q5) (ty := (.array .int)) (C := zR_He) (T := zT_He) (N := 9) hx hb hts zi_He zt_He zo_He zn_He hown X.1 X.2.1 X.2.2.1 X.2.2.2.1 0 rfl rfl 5 (by decide) (hts _ zif_He_init_26) (fun _ h9 => h9) rfl hin rfl (by decide +kernel) rfl rfl (Nat.le_of_ble_eq_true rfl) zd_He_init_46 (fun H locs hP hD hS => ?_)
  have X : zz_X D vwCl [(c1, .int), (c2, .int), (c3, .int), (c4, .int), (c5, .int)] A s H locs [(h0, .inr (6, [.ref h1, .ref q1, .ref q2, .ref q3, .ref q4, .ref q5, .int 0, .int 0, .int 0])), (q1, .inl (c1, 10, .inl (fun _ => 0))), (q2, .inl (c2, 10, .inl (fun _ => 0))), (q3, .inl (c3, 10, .inl (fun _ => 0))), (q4, .inl (c4, 10, .inl (fun _ => 0))), (q5, .inl (c5, 10, .inl (fun _ => 0)))] := ⟨X.1, hP, hD, hS, X.2.2.2.2⟩
  have e1 : c1 = c2 := zc_uI X.1 0 1 rfl rfl
  have e2 : c1 = c3 := zc_uI X.1 0 2 rfl rfl
  have e3 : c1 = c4 := zc_uI X.1 0 3 rfl rfl
  have e4 : c1 = c5 := zc_uI X.1 0 4 rfl rfl
  subst e1
  subst e2
  subst e3
  subst e4
  exact zr_cret hx hb hr hlocks ((fun k => match k with | 0 => q1 | 1 => q2 | 2 => q3 | 3 => q4 | _ => q5), c1, 0, (fun _ _ => 0)) rfl X rfl [0] rfl ⟨Nat.le_of_ble_eq_true rfl, Nat.le_of_ble_eq_true rfl⟩ zd_He_init_49

set_option maxRecDepth 100000 in
set_option maxHeartbeats 4000000 in
theorem zk_LS_init (l : Launch) (D : va_G) (h0 h1 h2 h3 : Nat) : zC l D vwCl (fun u => [(u.2.1, .int)]) (zwC_LS h0 h1 h2 h3) zy_LS_init (.code zy_LS_init zc_LS_init 4 none :: zz_WS) zm_LS_init [.ref h0, .ref h1, .ref h2, .ref h3] [(h0, .inr (7, [.null, .null, .null, .null, .null, .int 0]))] (fun u => u.2.2.2 = (fun _ _ => 0)) 2 20 := by
  refine zC_of (by decide +kernel) (Nat.le_of_ble_eq_true rfl) (fun p e s m below meth c A ls hx hb hml hown hts hr hlocks hin X hl => ?_)
  have hl : lv_has ls 4 [(0, .ref h0), (1, .ref h1), (2, .ref h2), (3, .ref h3)] := hl
  refine lv_aload_n hx hb zd_LS_init_0 rfl (lv_at hl 0 rfl) ?_
  refine W.objInit hx hb hown (hts _ zio_LS_init) (hts _ zo_inst) (hts _ zo_code) rfl (by rw [hml]; exact hl.1) rfl zd_LS_init_1 (Nat.le_of_ble_eq_true rfl) (Nat.le_of_ble_eq_true rfl) ?_
  refine W.eq (g2 := F0 m 4 ls []) rfl ?_
  refine lv_aload_n hx hb zd_LS_init_4 rfl (lv_at hl 0 rfl) ?_
  refine lv_aload_n hx hb zd_LS_init_5 rfl (lv_at hl 1 rfl) ?_
  refine va_putF (D := D) (ci := 7) (v := .ref h1) (ty := (.object "ShadowWarden$Memory")) (C := zR_LS) (T := zT_LS) (N := 6) hx hb hts zi_LS zt_LS zo_LS zn_LS hown X.1 X.2.1 X.2.2.1 X.2.2.2.1 0 rfl rfl 0 (by decide) (hts _ zif_LS_init_7) (fun _ h9 => h9) rfl hin rfl (by decide +kernel) rfl rfl (Nat.le_of_ble_eq_true rfl) zd_LS_init_6 (fun H locs hP hD hS => ?_)
  have X : zz_X D vwCl [] A s H locs [(h0, .inr (7, [.ref h1, .null, .null, .null, .null, .int 0]))] := ⟨X.1, hP, hD, hS, X.2.2.2.2⟩
  refine lv_aload_n hx hb zd_LS_init_9 rfl (lv_at hl 0 rfl) ?_
  refine lv_aload_n hx hb zd_LS_init_10 rfl (lv_at hl 2 rfl) ?_
  refine va_putF (D := D) (ci := 7) (v := .ref h2) (ty := (.object "ShadowWarden$Registers")) (C := zR_LS) (T := zT_LS) (N := 6) hx hb hts zi_LS zt_LS zo_LS zn_LS hown X.1 X.2.1 X.2.2.1 X.2.2.2.1 0 rfl rfl 1 (by decide) (hts _ zif_LS_init_13) (fun _ h9 => h9) rfl hin rfl (by decide +kernel) rfl rfl (Nat.le_of_ble_eq_true rfl) zd_LS_init_11 (fun H locs hP hD hS => ?_)
  have X : zz_X D vwCl [] A s H locs [(h0, .inr (7, [.ref h1, .ref h2, .null, .null, .null, .int 0]))] := ⟨X.1, hP, hD, hS, X.2.2.2.2⟩
  refine lv_aload_n hx hb zd_LS_init_14 rfl (lv_at hl 0 rfl) ?_
  refine lv_aload_n hx hb zd_LS_init_15 rfl (lv_at hl 3 rfl) ?_
  refine va_putF (D := D) (ci := 7) (v := .ref h3) (ty := (.object "ShadowWarden$Heap")) (C := zR_LS) (T := zT_LS) (N := 6) hx hb hts zi_LS zt_LS zo_LS zn_LS hown X.1 X.2.1 X.2.2.1 X.2.2.2.1 0 rfl rfl 2 (by decide) (hts _ zif_LS_init_17) (fun _ h9 => h9) rfl hin rfl (by decide +kernel) rfl rfl (Nat.le_of_ble_eq_true rfl) zd_LS_init_16 (fun H locs hP hD hS => ?_)
  have X : zz_X D vwCl [] A s H locs [(h0, .inr (7, [.ref h1, .ref h2, .ref h3, .null, .null, .int 0]))] := ⟨X.1, hP, hD, hS, X.2.2.2.2⟩
  refine lv_aload_n hx hb zd_LS_init_19 rfl (lv_at hl 0 rfl) ?_
  refine lv_bipush (v := 10) hx hb zd_LS_init_20 (by decide) ?_
  refine zr_newa (atype := .int) (ty := .int) (N' := 10) (a0 := (10, .inl (fun _ => 0))) rfl hx hb hts zo_aI X (fun cA => rfl) (by decide) (by decide) (by decide) ⟨Nat.le_of_ble_eq_true rfl, Nat.le_of_ble_eq_true rfl⟩ zd_LS_init_22 (fun q1 c1 H X => ?_)
  have X : zz_X D vwCl [(c1, .int)] A s H _ [(h0, .inr (7, [.ref h1, .ref h2, .ref h3, .null, .null, .int 0])), (q1, .inl (c1, 10, .inl (fun _ => 0)))] := X
  refine va_putF (D := D) (ci := 7) (v := .ref q1) (ty := (.array .int)) (C := zR_LS) (T := zT_LS) (N := 6) hx hb hts zi_LS zt_LS zo_LS zn_LS hown X.1 X.2.1 X.2.2.1 X.2.2.2.1 0 rfl rfl 3 (by decide) (hts _ zif_LS_init_23) (fun _ h9 => h9) rfl hin rfl (by decide +kernel) rfl rfl (Nat.le_of_ble_eq_true rfl) zd_LS_init_24 (fun H locs hP hD hS => ?_)
  have X : zz_X D vwCl [(c1, .int)] A s H locs [(h0, .inr (7, [.ref h1, .ref h2, .ref h3, .ref q1, .null, .int 0])), (q1, .inl (c1, 10, .inl (fun _ => 0)))] := ⟨X.1, hP, hD, hS, X.2.2.2.2⟩
  refine lv_aload_n hx hb zd_LS_init_27 rfl (lv_at hl 0 rfl) ?_
  refine lv_bipush (v := 10) hx hb zd_LS_init_28 (by decide) ?_
  refine zr_newa (atype := .int) (ty := .int) (N' := 10) (a0 := (10, .inl (fun _ => 0))) rfl hx hb hts zo_aI X (fun cA => rfl) (by decide) (by decide) (by decide) ⟨Nat.le_of_ble_eq_true rfl, Nat.le_of_ble_eq_true rfl⟩ zd_LS_init_30 (fun q2 c2 H X => ?_)
  have X : zz_X D vwCl [(c1, .int), (c2, .int)] A s H _ [(h0, .inr (7, [.ref h1, .ref h2, .ref h3, .ref q1, .null, .int 0])), (q1, .inl (c1, 10, .inl (fun _ => 0))), (q2, .inl (c2, 10, .inl (fun _ => 0)))] := X
  refine va_putF (D := D) (ci := 7) (v := .ref q2) (ty := (.array .int)) (C := zR_LS) (T := zT_LS) (N := 6) hx hb hts zi_LS zt_LS zo_LS zn_LS hown X.1 X.2.1 X.2.2.1 X.2.2.2.1 0 rfl rfl 4 (by decide) (hts _ zif_LS_init_27) (fun _ h9 => h9) rfl hin rfl (by decide +kernel) rfl rfl (Nat.le_of_ble_eq_true rfl) zd_LS_init_32 (fun H locs hP hD hS => ?_)
  have X : zz_X D vwCl [(c1, .int), (c2, .int)] A s H locs [(h0, .inr (7, [.ref h1, .ref h2, .ref h3, .ref q1, .ref q2, .int 0])), (q1, .inl (c1, 10, .inl (fun _ => 0))), (q2, .inl (c2, 10, .inl (fun _ => 0)))] := ⟨X.1, hP, hD, hS, X.2.2.2.2⟩
  have e1 : c1 = c2 := zc_uI X.1 0 1 rfl rfl
  subst e1
  exact zr_cret hx hb hr hlocks ((fun k => match k with | 0 => q1 | _ => q2), c1, 0, (fun _ _ => 0)) rfl X rfl [0] rfl ⟨Nat.le_of_ble_eq_true rfl, Nat.le_of_ble_eq_true rfl⟩ zd_LS_init_35

set_option maxRecDepth 100000 in
set_option maxHeartbeats 4000000 in
theorem zk_Ma_init (l : Launch) (D : va_G) (h0 h1 h2 h3 h4 h5 h6 : Nat) : zC l D vwCl (fun u => []) (zwC_Ma h0 h1 h2 h3 h4 h5 h6) zy_Ma_init (.code zy_Ma_init zc_Ma_init 7 none :: zz_WS) zm_Ma_init [.ref h0, .ref h1, .ref h2, .ref h3, .ref h4, .ref h5, .ref h6] [(h0, .inr (8, [.null, .null, .null, .null, .null, .null, .int 0, .int 0, .int 0, .int 0, .int 0]))] (fun u => u.2.2.2 = zz_put (fun _ _ => 0) 31 0 1) 0 0 := by
  refine zC_of (by decide +kernel) (Nat.le_of_ble_eq_true rfl) (fun p e s m below meth c A ls hx hb hml hown hts hr hlocks hin X hl => ?_)
  have hl : lv_has ls 7 [(0, .ref h0), (1, .ref h1), (2, .ref h2), (3, .ref h3), (4, .ref h4), (5, .ref h5), (6, .ref h6)] := hl
  refine lv_aload_n hx hb zd_Ma_init_0 rfl (lv_at hl 0 rfl) ?_
  refine W.objInit hx hb hown (hts _ zio_Ma_init) (hts _ zo_inst) (hts _ zo_code) rfl (by rw [hml]; exact hl.1) rfl zd_Ma_init_1 (Nat.le_of_ble_eq_true rfl) (Nat.le_of_ble_eq_true rfl) ?_
  refine W.eq (g2 := F0 m 4 ls []) rfl ?_
  refine lv_aload_n hx hb zd_Ma_init_4 rfl (lv_at hl 0 rfl) ?_
  refine lv_aload_n hx hb zd_Ma_init_5 rfl (lv_at hl 1 rfl) ?_
  refine va_putF (D := D) (ci := 8) (v := .ref h1) (ty := (.object "ShadowWarden$Memory")) (C := zR_Ma) (T := zT_Ma) (N := 11) hx hb hts zi_Ma zt_Ma zo_Ma zn_Ma hown X.1 X.2.1 X.2.2.1 X.2.2.2.1 0 rfl rfl 0 (by decide) (hts _ zif_Ma_init_7) (fun _ h9 => h9) rfl hin rfl (by decide +kernel) rfl rfl (Nat.le_of_ble_eq_true rfl) zd_Ma_init_6 (fun H locs hP hD hS => ?_)
  have X : zz_X D vwCl [] A s H locs [(h0, .inr (8, [.ref h1, .null, .null, .null, .null, .null, .int 0, .int 0, .int 0, .int 0, .int 0]))] := ⟨X.1, hP, hD, hS, X.2.2.2.2⟩
  refine lv_aload_n hx hb zd_Ma_init_9 rfl (lv_at hl 0 rfl) ?_
  refine lv_aload_n hx hb zd_Ma_init_10 rfl (lv_at hl 2 rfl) ?_
  refine va_putF (D := D) (ci := 8) (v := .ref h2) (ty := (.object "ShadowWarden$Registers")) (C := zR_Ma) (T := zT_Ma) (N := 11) hx hb hts zi_Ma zt_Ma zo_Ma zn_Ma hown X.1 X.2.1 X.2.2.1 X.2.2.2.1 0 rfl rfl 1 (by decide) (hts _ zif_Ma_init_13) (fun _ h9 => h9) rfl hin rfl (by decide +kernel) rfl rfl (Nat.le_of_ble_eq_true rfl) zd_Ma_init_11 (fun H locs hP hD hS => ?_)
  have X : zz_X D vwCl [] A s H locs [(h0, .inr (8, [.ref h1, .ref h2, .null, .null, .null, .null, .int 0, .int 0, .int 0, .int 0, .int 0]))] := ⟨X.1, hP, hD, hS, X.2.2.2.2⟩
  refine lv_aload_n hx hb zd_Ma_init_14 rfl (lv_at hl 0 rfl) ?_
  refine lv_aload_n hx hb zd_Ma_init_15 rfl (lv_at hl 3 rfl) ?_
  refine va_putF (D := D) (ci := 8) (v := .ref h3) (ty := (.object "ShadowWarden$Program")) (C := zR_Ma) (T := zT_Ma) (N := 11) hx hb hts zi_Ma zt_Ma zo_Ma zn_Ma hown X.1 X.2.1 X.2.2.1 X.2.2.2.1 0 rfl rfl 2 (by decide) (hts _ zif_Ma_init_17) (fun _ h9 => h9) rfl hin rfl (by decide +kernel) rfl rfl (Nat.le_of_ble_eq_true rfl) zd_Ma_init_16 (fun H locs hP hD hS => ?_)
  have X : zz_X D vwCl [] A s H locs [(h0, .inr (8, [.ref h1, .ref h2, .ref h3, .null, .null, .null, .int 0, .int 0, .int 0, .int 0, .int 0]))] := ⟨X.1, hP, hD, hS, X.2.2.2.2⟩
  refine lv_aload_n hx hb zd_Ma_init_19 rfl (lv_at hl 0 rfl) ?_
  refine lv_aload hx hb zd_Ma_init_20 (lv_at hl 4 rfl) ?_
  refine va_putF (D := D) (ci := 8) (v := .ref h4) (ty := (.object "ShadowWarden$Pieces")) (C := zR_Ma) (T := zT_Ma) (N := 11) hx hb hts zi_Ma zt_Ma zo_Ma zn_Ma hown X.1 X.2.1 X.2.2.1 X.2.2.2.1 0 rfl rfl 3 (by decide) (hts _ zif_Ma_init_21) (fun _ h9 => h9) rfl hin rfl (by decide +kernel) rfl rfl (Nat.le_of_ble_eq_true rfl) zd_Ma_init_22 (fun H locs hP hD hS => ?_)
  have X : zz_X D vwCl [] A s H locs [(h0, .inr (8, [.ref h1, .ref h2, .ref h3, .ref h4, .null, .null, .int 0, .int 0, .int 0, .int 0, .int 0]))] := ⟨X.1, hP, hD, hS, X.2.2.2.2⟩
  refine lv_aload_n hx hb zd_Ma_init_25 rfl (lv_at hl 0 rfl) ?_
  refine lv_aload hx hb zd_Ma_init_26 (lv_at hl 5 rfl) ?_
  refine va_putF (D := D) (ci := 8) (v := .ref h5) (ty := (.object "ShadowWarden$Findings")) (C := zR_Ma) (T := zT_Ma) (N := 11) hx hb hts zi_Ma zt_Ma zo_Ma zn_Ma hown X.1 X.2.1 X.2.2.1 X.2.2.2.1 0 rfl rfl 4 (by decide) (hts _ zif_Ma_init_25) (fun _ h9 => h9) rfl hin rfl (by decide +kernel) rfl rfl (Nat.le_of_ble_eq_true rfl) zd_Ma_init_28 (fun H locs hP hD hS => ?_)
  have X : zz_X D vwCl [] A s H locs [(h0, .inr (8, [.ref h1, .ref h2, .ref h3, .ref h4, .ref h5, .null, .int 0, .int 0, .int 0, .int 0, .int 0]))] := ⟨X.1, hP, hD, hS, X.2.2.2.2⟩
  refine lv_aload_n hx hb zd_Ma_init_31 rfl (lv_at hl 0 rfl) ?_
  refine lv_aload hx hb zd_Ma_init_32 (lv_at hl 6 rfl) ?_
  refine va_putF (D := D) (ci := 8) (v := .ref h6) (ty := (.object "ShadowWarden$Heap")) (C := zR_Ma) (T := zT_Ma) (N := 11) hx hb hts zi_Ma zt_Ma zo_Ma zn_Ma hown X.1 X.2.1 X.2.2.1 X.2.2.2.1 0 rfl rfl 5 (by decide) (hts _ zif_Ma_init_29) (fun _ h9 => h9) rfl hin rfl (by decide +kernel) rfl rfl (Nat.le_of_ble_eq_true rfl) zd_Ma_init_34 (fun H locs hP hD hS => ?_)
  have X : zz_X D vwCl [] A s H locs [(h0, .inr (8, [.ref h1, .ref h2, .ref h3, .ref h4, .ref h5, .ref h6, .int 0, .int 0, .int 0, .int 0, .int 0]))] := ⟨X.1, hP, hD, hS, X.2.2.2.2⟩
  refine lv_aload_n hx hb zd_Ma_init_37 rfl (lv_at hl 0 rfl) ?_
  refine lv_iconst (v := 1) hx hb zd_Ma_init_38 (by decide) ?_
  refine va_put (D := D) (ci := 8) (v := .int 1) (ty := .boolean) (C := zR_Ma) (T := zT_Ma) (N := 11) hx hb hts zi_Ma zt_Ma zo_Ma zn_Ma hown X.1 X.2.1 X.2.2.1 X.2.2.2.1 0 rfl rfl 8 (by decide) (hts _ zif_Ma_init_33) (fun _ h9 => h9) rfl (by decide +kernel) rfl rfl (Nat.le_of_ble_eq_true rfl) zd_Ma_init_39 (fun H locs hP hD hS => ?_)
  have X : zz_X D vwCl [] A s H locs [(h0, .inr (8, [.ref h1, .ref h2, .ref h3, .ref h4, .ref h5, .ref h6, .int 0, .int 0, .int 1, .int 0, .int 0]))] := ⟨X.1, hP, hD, hS, X.2.2.2.2⟩
  exact zr_cret hx hb hr hlocks ((fun _ => 0), 0, 0, zz_put (fun _ _ => 0) 31 0 1) rfl X rfl [] rfl ⟨Nat.le_of_ble_eq_true rfl, Nat.le_of_ble_eq_true rfl⟩ zd_Ma_init_42

set_option maxRecDepth 100000 in
set_option maxHeartbeats 4000000 in
theorem zw_Mo_init_L174 {p : Program} {l : Launch} {e : Env} {s : State} {m : MethodId} {args : Array Value} {below : List Frame} {meth : Method} {c : Code} {D : va_G} {q : Nat → Nat} {cI cZ : ClassId} {A : Nat → Prop} {R : Room} {cells slots : Nat} {Q : State → Prop} {out : St} (hx : p.tables.exec = Jvm.exec) (hb : c.code = zc_Mo_init) (hown : s.vm.findClass zR_Mo = some m.cls) (hts : ∀ w ∈ zz_WS, w.before args s = true) (hret : ∀ (H : Heap) (locs : List Loc) (ls : Array Slot), zz_X D vwCl (zz_tys cI cZ) A s H locs ((wM q cI cZ) out) → lv_has ls 2 [] → W p l e R s m args below meth c H locs cells slots Q (F0 m 250 ls []))  (kx : St → Option St) (hkx : ∀ (σ : St) (H : Heap) (locs : List Loc) (ls : Array Slot), zz_X D vwCl (zz_tys cI cZ) A s H locs ((wM q cI cZ) σ) → lv_has ls 2 [(0, .ref (q 0))] → kx σ = some out → W p l e R s m args below meth c H locs cells slots Q (F0 m 228 ls [])) : ∀ (n : Nat) (σ : St) (x1 : Int32) (H : Heap) (locs : List Loc) (ls : Array Slot), zz_X D vwCl (zz_tys cI cZ) A s H locs ((wM q cI cZ) σ) → lv_has ls 2 [(0, .ref (q 0)), (1, .int x1)] → zf_Mo_init_L174 kx n σ x1 = some out → W p l e R s m args below meth c H locs cells slots Q (F0 m 174 ls []) := by
  intro n
  induction n with
  | zero =>
    intro σ x1 H locs ls X hl hf
    exact absurd hf (by simp [zf_Mo_init_L174])
  | succ n ih =>
    intro σ x1 H locs ls X hl hf
    rw [zf_Mo_init_L174] at hf
    refine lv_iload_n hx hb zd_Mo_init_174 rfl (lv_at hl 1 rfl) ?_
    refine lv_sipush (v := 256) hx hb zd_Mo_init_175 (by decide) ?_
    refine lv_icmp_ge (tgt := 228) hx hb zd_Mo_init_178 (by decide) (fun g6 => ?_) (fun g6 => ?_)
    · rw [if_pos g6] at hf
      exact hkx σ _ _ _ X (lv_sub hl [0] rfl) hf
    · rw [if_neg g6] at hf
      refine lv_aload_n hx hb zd_Mo_init_181 rfl (lv_at hl 0 rfl) ?_
      refine zg_Mo_open hx hb hts hown X zd_Mo_init_182 ?_
      refine lv_iload_n hx hb zd_Mo_init_185 rfl (lv_at hl 1 rfl) ?_
      refine lv_iload_n hx hb zd_Mo_init_186 rfl (lv_at hl 1 rfl) ?_
      refine lv_bipush (v := 64) hx hb zd_Mo_init_187 (by decide) ?_
      refine lv_icmp_lt (tgt := 199) hx hb zd_Mo_init_189 (by decide) (fun g5 => ?_) (fun g5 => ?_)
      · rw [if_pos g5] at hf
        refine lv_iconst (v := 1) hx hb zd_Mo_init_199 (by decide) ?_
        refine lv_goto (tgt := 204) hx hb zd_Mo_init_200 (by decide) ?_
        obtain ⟨hin, hf⟩ := zz_ck_some hf
        refine zs_Mo_open hx hb X hin zd_Mo_init_204 (fun H locs X => ?_)
        refine lv_aload_n hx hb zd_Mo_init_205 rfl (lv_at hl 0 rfl) ?_
        refine zg_Mo_known hx hb hts hown X zd_Mo_init_206 ?_
        refine lv_iload_n hx hb zd_Mo_init_209 rfl (lv_at hl 1 rfl) ?_
        refine lv_iload_n hx hb zd_Mo_init_210 rfl (lv_at hl 1 rfl) ?_
        refine lv_bipush (v := 64) hx hb zd_Mo_init_211 (by decide) ?_
        refine lv_icmp_ge (tgt := 220) hx hb zd_Mo_init_213 (by decide) (fun g1 => ?_) (fun g1 => ?_)
        · rw [if_pos g1] at hf
          refine lv_iconst (v := 0) hx hb zd_Mo_init_220 (by decide) ?_
          obtain ⟨hin, hf⟩ := zz_ck_some hf
          refine zs_Mo_known hx hb X hin zd_Mo_init_221 (fun H locs X => ?_)
          refine lv_iinc (v := (x1 + (1 : Int32))) (lv' := [(1, .int (x1 + (1 : Int32))), (0, .ref (q 0))]) hx hb zd_Mo_init_222 hl (k := 1) rfl rfl (by decide) rfl (fun ls hl => ?_)
          refine lv_goto (tgt := 174) hx hb zd_Mo_init_225 (by decide) ?_
          exact ih (zz_put (zz_put σ 6 x1.toNatClampNeg (1 : Int32)) 7 x1.toNatClampNeg (0 : Int32)) (x1 + (1 : Int32)) _ _ _ X (lv_sub hl [1, 0] rfl) hf
        · rw [if_neg g1] at hf
          refine lv_iconst (v := 1) hx hb zd_Mo_init_216 (by decide) ?_
          refine lv_goto (tgt := 221) hx hb zd_Mo_init_217 (by decide) ?_
          obtain ⟨hin, hf⟩ := zz_ck_some hf
          refine zs_Mo_known hx hb X hin zd_Mo_init_221 (fun H locs X => ?_)
          refine lv_iinc (v := (x1 + (1 : Int32))) (lv' := [(1, .int (x1 + (1 : Int32))), (0, .ref (q 0))]) hx hb zd_Mo_init_222 hl (k := 1) rfl rfl (by decide) rfl (fun ls hl => ?_)
          refine lv_goto (tgt := 174) hx hb zd_Mo_init_225 (by decide) ?_
          exact ih (zz_put (zz_put σ 6 x1.toNatClampNeg (1 : Int32)) 7 x1.toNatClampNeg (1 : Int32)) (x1 + (1 : Int32)) _ _ _ X (lv_sub hl [1, 0] rfl) hf
      · rw [if_neg g5] at hf
        refine lv_iload_n hx hb zd_Mo_init_192 rfl (lv_at hl 1 rfl) ?_
        refine lv_sipush (v := 223) hx hb zd_Mo_init_193 (by decide) ?_
        refine lv_icmp_le (tgt := 203) hx hb zd_Mo_init_196 (by decide) (fun g4 => ?_) (fun g4 => ?_)
        · rw [if_pos g4] at hf
          refine lv_iconst (v := 0) hx hb zd_Mo_init_203 (by decide) ?_
          obtain ⟨hin, hf⟩ := zz_ck_some hf
          refine zs_Mo_open hx hb X hin zd_Mo_init_204 (fun H locs X => ?_)
          refine lv_aload_n hx hb zd_Mo_init_205 rfl (lv_at hl 0 rfl) ?_
          refine zg_Mo_known hx hb hts hown X zd_Mo_init_206 ?_
          refine lv_iload_n hx hb zd_Mo_init_209 rfl (lv_at hl 1 rfl) ?_
          refine lv_iload_n hx hb zd_Mo_init_210 rfl (lv_at hl 1 rfl) ?_
          refine lv_bipush (v := 64) hx hb zd_Mo_init_211 (by decide) ?_
          refine lv_icmp_ge (tgt := 220) hx hb zd_Mo_init_213 (by decide) (fun g2 => ?_) (fun g2 => ?_)
          · rw [if_pos g2] at hf
            refine lv_iconst (v := 0) hx hb zd_Mo_init_220 (by decide) ?_
            obtain ⟨hin, hf⟩ := zz_ck_some hf
            refine zs_Mo_known hx hb X hin zd_Mo_init_221 (fun H locs X => ?_)
            refine lv_iinc (v := (x1 + (1 : Int32))) (lv' := [(1, .int (x1 + (1 : Int32))), (0, .ref (q 0))]) hx hb zd_Mo_init_222 hl (k := 1) rfl rfl (by decide) rfl (fun ls hl => ?_)
            refine lv_goto (tgt := 174) hx hb zd_Mo_init_225 (by decide) ?_
            exact ih (zz_put (zz_put σ 6 x1.toNatClampNeg (0 : Int32)) 7 x1.toNatClampNeg (0 : Int32)) (x1 + (1 : Int32)) _ _ _ X (lv_sub hl [1, 0] rfl) hf
          · rw [if_neg g2] at hf
            refine lv_iconst (v := 1) hx hb zd_Mo_init_216 (by decide) ?_
            refine lv_goto (tgt := 221) hx hb zd_Mo_init_217 (by decide) ?_
            obtain ⟨hin, hf⟩ := zz_ck_some hf
            refine zs_Mo_known hx hb X hin zd_Mo_init_221 (fun H locs X => ?_)
            refine lv_iinc (v := (x1 + (1 : Int32))) (lv' := [(1, .int (x1 + (1 : Int32))), (0, .ref (q 0))]) hx hb zd_Mo_init_222 hl (k := 1) rfl rfl (by decide) rfl (fun ls hl => ?_)
            refine lv_goto (tgt := 174) hx hb zd_Mo_init_225 (by decide) ?_
            exact ih (zz_put (zz_put σ 6 x1.toNatClampNeg (0 : Int32)) 7 x1.toNatClampNeg (1 : Int32)) (x1 + (1 : Int32)) _ _ _ X (lv_sub hl [1, 0] rfl) hf
        · rw [if_neg g4] at hf
          refine lv_iconst (v := 1) hx hb zd_Mo_init_199 (by decide) ?_
          refine lv_goto (tgt := 204) hx hb zd_Mo_init_200 (by decide) ?_
          obtain ⟨hin, hf⟩ := zz_ck_some hf
          refine zs_Mo_open hx hb X hin zd_Mo_init_204 (fun H locs X => ?_)
          refine lv_aload_n hx hb zd_Mo_init_205 rfl (lv_at hl 0 rfl) ?_
          refine zg_Mo_known hx hb hts hown X zd_Mo_init_206 ?_
          refine lv_iload_n hx hb zd_Mo_init_209 rfl (lv_at hl 1 rfl) ?_
          refine lv_iload_n hx hb zd_Mo_init_210 rfl (lv_at hl 1 rfl) ?_
          refine lv_bipush (v := 64) hx hb zd_Mo_init_211 (by decide) ?_
          refine lv_icmp_ge (tgt := 220) hx hb zd_Mo_init_213 (by decide) (fun g3 => ?_) (fun g3 => ?_)
          · rw [if_pos g3] at hf
            refine lv_iconst (v := 0) hx hb zd_Mo_init_220 (by decide) ?_
            obtain ⟨hin, hf⟩ := zz_ck_some hf
            refine zs_Mo_known hx hb X hin zd_Mo_init_221 (fun H locs X => ?_)
            refine lv_iinc (v := (x1 + (1 : Int32))) (lv' := [(1, .int (x1 + (1 : Int32))), (0, .ref (q 0))]) hx hb zd_Mo_init_222 hl (k := 1) rfl rfl (by decide) rfl (fun ls hl => ?_)
            refine lv_goto (tgt := 174) hx hb zd_Mo_init_225 (by decide) ?_
            exact ih (zz_put (zz_put σ 6 x1.toNatClampNeg (1 : Int32)) 7 x1.toNatClampNeg (0 : Int32)) (x1 + (1 : Int32)) _ _ _ X (lv_sub hl [1, 0] rfl) hf
          · rw [if_neg g3] at hf
            refine lv_iconst (v := 1) hx hb zd_Mo_init_216 (by decide) ?_
            refine lv_goto (tgt := 221) hx hb zd_Mo_init_217 (by decide) ?_
            obtain ⟨hin, hf⟩ := zz_ck_some hf
            refine zs_Mo_known hx hb X hin zd_Mo_init_221 (fun H locs X => ?_)
            refine lv_iinc (v := (x1 + (1 : Int32))) (lv' := [(1, .int (x1 + (1 : Int32))), (0, .ref (q 0))]) hx hb zd_Mo_init_222 hl (k := 1) rfl rfl (by decide) rfl (fun ls hl => ?_)
            refine lv_goto (tgt := 174) hx hb zd_Mo_init_225 (by decide) ?_
            exact ih (zz_put (zz_put σ 6 x1.toNatClampNeg (1 : Int32)) 7 x1.toNatClampNeg (1 : Int32)) (x1 + (1 : Int32)) _ _ _ X (lv_sub hl [1, 0] rfl) hf

set_option maxRecDepth 100000 in
set_option maxHeartbeats 4000000 in
theorem zw_Mo_init_L230 {p : Program} {l : Launch} {e : Env} {s : State} {m : MethodId} {args : Array Value} {below : List Frame} {meth : Method} {c : Code} {D : va_G} {q : Nat → Nat} {cI cZ : ClassId} {A : Nat → Prop} {R : Room} {cells slots : Nat} {Q : State → Prop} {out : St} (hx : p.tables.exec = Jvm.exec) (hb : c.code = zc_Mo_init) (hown : s.vm.findClass zR_Mo = some m.cls) (hts : ∀ w ∈ zz_WS, w.before args s = true) (hret : ∀ (H : Heap) (locs : List Loc) (ls : Array Slot), zz_X D vwCl (zz_tys cI cZ) A s H locs ((wM q cI cZ) out) → lv_has ls 2 [] → W p l e R s m args below meth c H locs cells slots Q (F0 m 250 ls []))  (kx : St → Option St) (hkx : ∀ (σ : St) (H : Heap) (locs : List Loc) (ls : Array Slot), zz_X D vwCl (zz_tys cI cZ) A s H locs ((wM q cI cZ) σ) → lv_has ls 2 [] → kx σ = some out → W p l e R s m args below meth c H locs cells slots Q (F0 m 250 ls [])) : ∀ (n : Nat) (σ : St) (x1 : Int32) (H : Heap) (locs : List Loc) (ls : Array Slot), zz_X D vwCl (zz_tys cI cZ) A s H locs ((wM q cI cZ) σ) → lv_has ls 2 [(0, .ref (q 0)), (1, .int x1)] → zf_Mo_init_L230 kx n σ x1 = some out → W p l e R s m args below meth c H locs cells slots Q (F0 m 230 ls []) := by
  intro n
  induction n with
  | zero =>
    intro σ x1 H locs ls X hl hf
    exact absurd hf (by simp [zf_Mo_init_L230])
  | succ n ih =>
    intro σ x1 H locs ls X hl hf
    rw [zf_Mo_init_L230] at hf
    refine lv_iload_n hx hb zd_Mo_init_230 rfl (lv_at hl 1 rfl) ?_
    refine lv_bipush (v := 8) hx hb zd_Mo_init_231 (by decide) ?_
    refine lv_icmp_ge (tgt := 250) hx hb zd_Mo_init_233 (by decide) (fun g8 => ?_) (fun g8 => ?_)
    · rw [if_pos g8] at hf
      exact hkx σ _ _ _ X (lv_sub hl [] rfl) hf
    · rw [if_neg g8] at hf
      refine lv_aload_n hx hb zd_Mo_init_236 rfl (lv_at hl 0 rfl) ?_
      refine zg_Mo_sure hx hb hts hown X zd_Mo_init_237 ?_
      refine lv_iload_n hx hb zd_Mo_init_240 rfl (lv_at hl 1 rfl) ?_
      refine lv_bipush (v := 15) hx hb zd_Mo_init_241 (by decide) ?_
      obtain ⟨hin, hf⟩ := zz_ck_some hf
      refine zs_Mo_sure hx hb X hin zd_Mo_init_243 (fun H locs X => ?_)
      refine lv_iinc (v := (x1 + (1 : Int32))) (lv' := [(1, .int (x1 + (1 : Int32))), (0, .ref (q 0))]) hx hb zd_Mo_init_244 hl (k := 1) rfl rfl (by decide) rfl (fun ls hl => ?_)
      refine lv_goto (tgt := 230) hx hb zd_Mo_init_247 (by decide) ?_
      exact ih (zz_put σ 9 x1.toNatClampNeg (15 : Int32)) (x1 + (1 : Int32)) _ _ _ X (lv_sub hl [1, 0] rfl) hf

set_option maxRecDepth 100000 in
set_option maxHeartbeats 4000000 in
theorem zw_Mo_init_b172 {p : Program} {l : Launch} {e : Env} {s : State} {m : MethodId} {args : Array Value} {below : List Frame} {meth : Method} {c : Code} {D : va_G} {q : Nat → Nat} {cI cZ : ClassId} {A : Nat → Prop} {R : Room} {cells slots : Nat} {Q : State → Prop} {out : St} (hx : p.tables.exec = Jvm.exec) (hb : c.code = zc_Mo_init) (hown : s.vm.findClass zR_Mo = some m.cls) (hts : ∀ w ∈ zz_WS, w.before args s = true) (hret : ∀ (H : Heap) (locs : List Loc) (ls : Array Slot), zz_X D vwCl (zz_tys cI cZ) A s H locs ((wM q cI cZ) out) → lv_has ls 2 [] → W p l e R s m args below meth c H locs cells slots Q (F0 m 250 ls [])) : ∀ (σ : St) (H : Heap) (locs : List Loc) (ls : Array Slot), zz_X D vwCl (zz_tys cI cZ) A s H locs ((wM q cI cZ) σ) → lv_has ls 2 [(0, .ref (q 0))] → zf_Mo_init_b172 σ = some out → W p l e R s m args below meth c H locs cells slots Q (F0 m 172 ls []) := by
  intro σ  H locs ls X hl hf
  rw [zf_Mo_init_b172] at hf
  refine lv_iconst (v := 0) hx hb zd_Mo_init_172 (by decide) ?_
  refine lv_istore_n (lv' := [(1, .int (0 : Int32)), (0, .ref (q 0))]) hx hb zd_Mo_init_173 rfl hl (by decide) rfl (fun ls hl => ?_)
  refine zw_Mo_init_L174 hx hb hown hts hret _ (fun s7 H locs ls X hl hf => ?_) 300 σ (0 : Int32) _ _ _ X (lv_sub hl [1, 0] rfl) hf
  refine lv_iconst (v := 0) hx hb zd_Mo_init_228 (by decide) ?_
  refine lv_istore_n (lv' := [(1, .int (0 : Int32)), (0, .ref (q 0))]) hx hb zd_Mo_init_229 rfl hl (by decide) rfl (fun ls hl => ?_)
  refine zw_Mo_init_L230 hx hb hown hts hret _ (fun s9 H locs ls X hl hf => ?_) 300 s7 (0 : Int32) _ _ _ X (lv_sub hl [1, 0] rfl) hf
  exact hret _ _ _ (by rw [← Option.some.inj hf]; exact X) (lv_sub hl [] rfl)

set_option maxRecDepth 100000 in
set_option maxHeartbeats 4000000 in
theorem zk_Mo_init (l : Launch) (D : va_G) (h0 : Nat) {out : St} (hf : zf_Mo_init_b172 (zz_put (fun _ _ => 0) 28 0 1) = some out) : zC l D vwCl (fun u => [(u.2.1, .int), (u.2.2.1, .boolean)]) (zwC_Mo h0) zy_Mo_init (.code zy_Mo_init zc_Mo_init 2 none :: zz_WS) zm_Mo_init [.ref h0] [(h0, .inr (9, [.null, .null, .null, .null, .null, .null, .null, .null, .null, .null, .null, .null, .null, .null, .null, .null, .null, .null, .null, .null, .int 0, .int 0, .int 0, .int 0, .int 0, .int 0, .int 0, .int 0, .int 0]))] (fun u => u.2.2.2 = out) 20 1122 := by
  refine zC_of (by decide +kernel) (Nat.le_of_ble_eq_true rfl) (fun p e s m below meth c A ls hx hb hml hown hts hr hlocks hin X hl => ?_)
  have hl : lv_has ls 2 [(0, .ref h0)] := hl
  refine lv_aload_n hx hb zd_Mo_init_0 rfl (lv_at hl 0 rfl) ?_
  refine W.objInit hx hb hown (hts _ zio_Mo_init) (hts _ zo_inst) (hts _ zo_code) rfl (by rw [hml]; exact hl.1) rfl zd_Mo_init_1 (Nat.le_of_ble_eq_true rfl) (Nat.le_of_ble_eq_true rfl) ?_
  refine W.eq (g2 := F0 m 4 ls []) rfl ?_
  refine lv_aload_n hx hb zd_Mo_init_4 rfl (lv_at hl 0 rfl) ?_
  refine lv_bipush (v := 32) hx hb zd_Mo_init_5 (by decide) ?_
  refine zr_newa (atype := .int) (ty := .int) (N' := 32) (a0 := (32, .inl (fun _ => 0))) rfl hx hb hts zo_aI X (fun cA => rfl) (by decide) (by decide) (by decide) ⟨Nat.le_of_ble_eq_true rfl, Nat.le_of_ble_eq_true rfl⟩ zd_Mo_init_7 (fun q1 c1 H X => ?_)
  have X : zz_X D vwCl [(c1, .int)] A s H _ [(h0, .inr (9, [.null, .null, .null, .null, .null, .null, .null, .null, .null, .null, .null, .null, .null, .null, .null, .null, .null, .null, .null, .null, .int 0, .int 0, .int 0, .int 0, .int 0, .int 0, .int 0, .int 0, .int 0])), (q1, .inl (c1, 32, .inl (fun _ => 0)))] := X
  refine va_putF (D := D) (ci := 9) (v := .ref q1) (ty := (.array .int)) (C := zR_Mo) (T := zT_Mo) (N := 29) hx hb hts zi_Mo zt_Mo zo_Mo zn_Mo hown X.1 X.2.1 X.2.2.1 X.2.2.2.1 0 rfl rfl 0 (by decide) (hts _ zif_Mo_init_7) (fun _ h9 => h9) rfl hin rfl (by decide +kernel) rfl rfl (Nat.le_of_ble_eq_true rfl) zd_Mo_init_9 (fun H locs hP hD hS => ?_)
  have X : zz_X D vwCl [(c1, .int)] A s H locs [(h0, .inr (9, [.ref q1, .null, .null, .null, .null, .null, .null, .null, .null, .null, .null, .null, .null, .null, .null, .null, .null, .null, .null, .null, .int 0, .int 0, .int 0, .int 0, .int 0, .int 0, .int 0, .int 0, .int 0])), (q1, .inl (c1, 32, .inl (fun _ => 0)))] := ⟨X.1, hP, hD, hS, X.2.2.2.2⟩
  refine lv_aload_n hx hb zd_Mo_init_12 rfl (lv_at hl 0 rfl) ?_
  refine lv_bipush (v := 32) hx hb zd_Mo_init_13 (by decide) ?_
  refine zr_newa (atype := .int) (ty := .int) (N' := 32) (a0 := (32, .inl (fun _ => 0))) rfl hx hb hts zo_aI X (fun cA => rfl) (by decide) (by decide) (by decide) ⟨Nat.le_of_ble_eq_true rfl, Nat.le_of_ble_eq_true rfl⟩ zd_Mo_init_15 (fun q2 c2 H X => ?_)
  have X : zz_X D vwCl [(c1, .int), (c2, .int)] A s H _ [(h0, .inr (9, [.ref q1, .null, .null, .null, .null, .null, .null, .null, .null, .null, .null, .null, .null, .null, .null, .null, .null, .null, .null, .null, .int 0, .int 0, .int 0, .int 0, .int 0, .int 0, .int 0, .int 0, .int 0])), (q1, .inl (c1, 32, .inl (fun _ => 0))), (q2, .inl (c2, 32, .inl (fun _ => 0)))] := X
  refine va_putF (D := D) (ci := 9) (v := .ref q2) (ty := (.array .int)) (C := zR_Mo) (T := zT_Mo) (N := 29) hx hb hts zi_Mo zt_Mo zo_Mo zn_Mo hown X.1 X.2.1 X.2.2.1 X.2.2.2.1 0 rfl rfl 1 (by decide) (hts _ zif_Mo_init_13) (fun _ h9 => h9) rfl hin rfl (by decide +kernel) rfl rfl (Nat.le_of_ble_eq_true rfl) zd_Mo_init_17 (fun H locs hP hD hS => ?_)
  have X : zz_X D vwCl [(c1, .int), (c2, .int)] A s H locs [(h0, .inr (9, [.ref q1, .ref q2, .null, .null, .null, .null, .null, .null, .null, .null, .null, .null, .null, .null, .null, .null, .null, .null, .null, .null, .int 0, .int 0, .int 0, .int 0, .int 0, .int 0, .int 0, .int 0, .int 0])), (q1, .inl (c1, 32, .inl (fun _ => 0))), (q2, .inl (c2, 32, .inl (fun _ => 0)))] := ⟨X.1, hP, hD, hS, X.2.2.2.2⟩
  refine lv_aload_n hx hb zd_Mo_init_20 rfl (lv_at hl 0 rfl) ?_
  refine lv_bipush (v := 32) hx hb zd_Mo_init_21 (by decide) ?_
  refine zr_newa (atype := .int) (ty := .int) (N' := 32) (a0 := (32, .inl (fun _ => 0))) rfl hx hb hts zo_aI X (fun cA => rfl) (by decide) (by decide) (by decide) ⟨Nat.le_of_ble_eq_true rfl, Nat.le_of_ble_eq_true rfl⟩ zd_Mo_init_23 (fun q3 c3 H X => ?_)
  have X : zz_X D vwCl [(c1, .int), (c2, .int), (c3, .int)] A s H _ [(h0, .inr (9, [.ref q1, .ref q2, .null, .null, .null, .null, .null, .null, .null, .null, .null, .null, .null, .null, .null, .null, .null, .null, .null, .null, .int 0, .int 0, .int 0, .int 0, .int 0, .int 0, .int 0, .int 0, .int 0])), (q1, .inl (c1, 32, .inl (fun _ => 0))), (q2, .inl (c2, 32, .inl (fun _ => 0))), (q3, .inl (c3, 32, .inl (fun _ => 0)))] := X
  refine va_putF (D := D) (ci := 9) (v := .ref q3) (ty := (.array .int)) (C := zR_Mo) (T := zT_Mo) (N := 29) hx hb hts zi_Mo zt_Mo zo_Mo zn_Mo hown X.1 X.2.1 X.2.2.1 X.2.2.2.1 0 rfl rfl 2 (by decide) (hts _ zif_Mo_init_16) (fun _ h9 => h9) rfl hin rfl (by decide +kernel) rfl rfl (Nat.le_of_ble_eq_true rfl) zd_Mo_init_25 (fun H locs hP hD hS => ?_)
  have X : zz_X D vwCl [(c1, .int), (c2, .int), (c3, .int)] A s H locs [(h0, .inr (9, [.ref q1, .ref q2, .ref q3, .null, .null, .null, .null, .null, .null, .null, .null, .null, .null, .null, .null, .null, .null, .null, .null, .null, .int 0, .int 0, .int 0, .int 0, .int 0, .int 0, .int 0, .int 0, .int 0])), (q1, .inl (c1, 32, .inl (fun _ => 0))), (q2, .inl (c2, 32, .inl (fun _ => 0))), (q3, .inl (c3, 32, .inl (fun _ => 0)))] := ⟨X.1, hP, hD, hS, X.2.2.2.2⟩
  refine lv_aload_n hx hb zd_Mo_init_28 rfl (lv_at hl 0 rfl) ?_
  refine lv_bipush (v := 32) hx hb zd_Mo_init_29 (by decide) ?_
  refine zr_newa (atype := .int) (ty := .int) (N' := 32) (a0 := (32, .inl (fun _ => 0))) rfl hx hb hts zo_aI X (fun cA => rfl) (by decide) (by decide) (by decide) ⟨Nat.le_of_ble_eq_true rfl, Nat.le_of_ble_eq_true rfl⟩ zd_Mo_init_31 (fun q4 c4 H X => ?_)
  have X : zz_X D vwCl [(c1, .int), (c2, .int), (c3, .int), (c4, .int)] A s H _ [(h0, .inr (9, [.ref q1, .ref q2, .ref q3, .null, .null, .null, .null, .null, .null, .null, .null, .null, .null, .null, .null, .null, .null, .null, .null, .null, .int 0, .int 0, .int 0, .int 0, .int 0, .int 0, .int 0, .int 0, .int 0])), (q1, .inl (c1, 32, .inl (fun _ => 0))), (q2, .inl (c2, 32, .inl (fun _ => 0))), (q3, .inl (c3, 32, .inl (fun _ => 0))), (q4, .inl (c4, 32, .inl (fun _ => 0)))] := X
  refine va_putF (D := D) (ci := 9) (v := .ref q4) (ty := (.array .int)) (C := zR_Mo) (T := zT_Mo) (N := 29) hx hb hts zi_Mo zt_Mo zo_Mo zn_Mo hown X.1 X.2.1 X.2.2.1 X.2.2.2.1 0 rfl rfl 3 (by decide) (hts _ zif_Mo_init_19) (fun _ h9 => h9) rfl hin rfl (by decide +kernel) rfl rfl (Nat.le_of_ble_eq_true rfl) zd_Mo_init_33 (fun H locs hP hD hS => ?_)
  have X : zz_X D vwCl [(c1, .int), (c2, .int), (c3, .int), (c4, .int)] A s H locs [(h0, .inr (9, [.ref q1, .ref q2, .ref q3, .ref q4, .null, .null, .null, .null, .null, .null, .null, .null, .null, .null, .null, .null, .null, .null, .null, .null, .int 0, .int 0, .int 0, .int 0, .int 0, .int 0, .int 0, .int 0, .int 0])), (q1, .inl (c1, 32, .inl (fun _ => 0))), (q2, .inl (c2, 32, .inl (fun _ => 0))), (q3, .inl (c3, 32, .inl (fun _ => 0))), (q4, .inl (c4, 32, .inl (fun _ => 0)))] := ⟨X.1, hP, hD, hS, X.2.2.2.2⟩
  refine lv_aload_n hx hb zd_Mo_init_36 rfl (lv_at hl 0 rfl) ?_
  refine lv_bipush (v := 32) hx hb zd_Mo_init_37 (by decide) ?_
  refine zr_newa (atype := .int) (ty := .int) (N' := 32) (a0 := (32, .inl (fun _ => 0))) rfl hx hb hts zo_aI X (fun cA => rfl) (by decide) (by decide) (by decide) ⟨Nat.le_of_ble_eq_true rfl, Nat.le_of_ble_eq_true rfl⟩ zd_Mo_init_39 (fun q5 c5 H X => ?_)
  have X : zz_X D vwCl [(c1, .int), (c2, .int), (c3, .int), (c4, .int), (c5, .int)] A s H _ [(h0, .inr (9, [.ref q1, .ref q2, .ref q3, .ref q4, .null, .null, .null, .null, .null, .null, .null, .null, .null, .null, .null, .null, .null, .null, .null, .null, .int 0, .int 0, .int 0, .int 0, .int 0, .int 0, .int 0, .int 0, .int 0])), (q1, .inl (c1, 32, .inl (fun _ => 0))), (q2, .inl (c2, 32, .inl (fun _ => 0))), (q3, .inl (c3, 32, .inl (fun _ => 0))), (q4, .inl (c4, 32, .inl (fun _ => 0))), (q5, .inl (c5, 32, .inl (fun _ => 0)))] := X
  refine va_putF (D := D) (ci := 9) (v := .ref q5) (ty := (.array .int)) (C := zR_Mo) (T := zT_Mo) (N := 29) hx hb hts zi_Mo zt_Mo zo_Mo zn_Mo hown X.1 X.2.1 X.2.2.1 X.2.2.2.1 0 rfl rfl 4 (by decide) (hts _ zif_Mo_init_22) (fun _ h9 => h9) rfl hin rfl (by decide +kernel) rfl rfl (Nat.le_of_ble_eq_true rfl) zd_Mo_init_41 (fun H locs hP hD hS => ?_)
  have X : zz_X D vwCl [(c1, .int), (c2, .int), (c3, .int), (c4, .int), (c5, .int)] A s H locs [(h0, .inr (9, [.ref q1, .ref q2, .ref q3, .ref q4, .ref q5, .null, .null, .null, .null, .null, .null, .null, .null, .null, .null, .null, .null, .null, .null, .null, .int 0, .int 0, .int 0, .int 0, .int 0, .int 0, .int 0, .int 0, .int 0])), (q1, .inl (c1, 32, .inl (fun _ => 0))), (q2, .inl (c2, 32, .inl (fun _ => 0))), (q3, .inl (c3, 32, .inl (fun _ => 0))), (q4, .inl (c4, 32, .inl (fun _ => 0))), (q5, .inl (c5, 32, .inl (fun _ => 0)))] := ⟨X.1, hP, hD, hS, X.2.2.2.2⟩
  refine lv_aload_n hx hb zd_Mo_init_44 rfl (lv_at hl 0 rfl) ?_
  refine lv_sipush (v := 256) hx hb zd_Mo_init_45 (by decide) ?_
  refine zr_newa (atype := .int) (ty := .int) (N' := 256) (a0 := (256, .inl (fun _ => 0))) rfl hx hb hts zo_aI X (fun cA => rfl) (by decide) (by decide) (by decide) ⟨Nat.le_of_ble_eq_true rfl, Nat.le_of_ble_eq_true rfl⟩ zd_Mo_init_48 (fun q6 c6 H X => ?_)
  have X : zz_X D vwCl [(c1, .int), (c2, .int), (c3, .int), (c4, .int), (c5, .int), (c6, .int)] A s H _ [(h0, .inr (9, [.ref q1, .ref q2, .ref q3, .ref q4, .ref q5, .null, .null, .null, .null, .null, .null, .null, .null, .null, .null, .null, .null, .null, .null, .null, .int 0, .int 0, .int 0, .int 0, .int 0, .int 0, .int 0, .int 0, .int 0])), (q1, .inl (c1, 32, .inl (fun _ => 0))), (q2, .inl (c2, 32, .inl (fun _ => 0))), (q3, .inl (c3, 32, .inl (fun _ => 0))), (q4, .inl (c4, 32, .inl (fun _ => 0))), (q5, .inl (c5, 32, .inl (fun _ => 0))), (q6, .inl (c6, 256, .inl (fun _ => 0)))] := X
  refine va_putF (D := D) (ci := 9) (v := .ref q6) (ty := (.array .int)) (C := zR_Mo) (T := zT_Mo) (N := 29) hx hb hts zi_Mo zt_Mo zo_Mo zn_Mo hown X.1 X.2.1 X.2.2.1 X.2.2.2.1 0 rfl rfl 5 (by decide) (hts _ zif_Mo_init_25) (fun _ h9 => h9) rfl hin rfl (by decide +kernel) rfl rfl (Nat.le_of_ble_eq_true rfl) zd_Mo_init_50 (fun H locs hP hD hS => ?_)
  have X : zz_X D vwCl [(c1, .int), (c2, .int), (c3, .int), (c4, .int), (c5, .int), (c6, .int)] A s H locs [(h0, .inr (9, [.ref q1, .ref q2, .ref q3, .ref q4, .ref q5, .ref q6, .null, .null, .null, .null, .null, .null, .null, .null, .null, .null, .null, .null, .null, .null, .int 0, .int 0, .int 0, .int 0, .int 0, .int 0, .int 0, .int 0, .int 0])), (q1, .inl (c1, 32, .inl (fun _ => 0))), (q2, .inl (c2, 32, .inl (fun _ => 0))), (q3, .inl (c3, 32, .inl (fun _ => 0))), (q4, .inl (c4, 32, .inl (fun _ => 0))), (q5, .inl (c5, 32, .inl (fun _ => 0))), (q6, .inl (c6, 256, .inl (fun _ => 0)))] := ⟨X.1, hP, hD, hS, X.2.2.2.2⟩
  refine lv_aload_n hx hb zd_Mo_init_53 rfl (lv_at hl 0 rfl) ?_
  refine lv_sipush (v := 256) hx hb zd_Mo_init_54 (by decide) ?_
  refine zr_newa (atype := .int) (ty := .int) (N' := 256) (a0 := (256, .inl (fun _ => 0))) rfl hx hb hts zo_aI X (fun cA => rfl) (by decide) (by decide) (by decide) ⟨Nat.le_of_ble_eq_true rfl, Nat.le_of_ble_eq_true rfl⟩ zd_Mo_init_57 (fun q7 c7 H X => ?_)
  have X : zz_X D vwCl [(c1, .int), (c2, .int), (c3, .int), (c4, .int), (c5, .int), (c6, .int), (c7, .int)] A s H _ [(h0, .inr (9, [.ref q1, .ref q2, .ref q3, .ref q4, .ref q5, .ref q6, .null, .null, .null, .null, .null, .null, .null, .null, .null, .null, .null, .null, .null, .null, .int 0, .int 0, .int 0, .int 0, .int 0, .int 0, .int 0, .int 0, .int 0])), (q1, .inl (c1, 32, .inl (fun _ => 0))), (q2, .inl (c2, 32, .inl (fun _ => 0))), (q3, .inl (c3, 32, .inl (fun _ => 0))), (q4, .inl (c4, 32, .inl (fun _ => 0))), (q5, .inl (c5, 32, .inl (fun _ => 0))), (q6, .inl (c6, 256, .inl (fun _ => 0))), (q7, .inl (c7, 256, .inl (fun _ => 0)))] := X
  refine va_putF (D := D) (ci := 9) (v := .ref q7) (ty := (.array .int)) (C := zR_Mo) (T := zT_Mo) (N := 29) hx hb hts zi_Mo zt_Mo zo_Mo zn_Mo hown X.1 X.2.1 X.2.2.1 X.2.2.2.1 0 rfl rfl 6 (by decide) (hts _ zif_Mo_init_28) (fun _ h9 => h9) rfl hin rfl (by decide +kernel) rfl rfl (Nat.le_of_ble_eq_true rfl) zd_Mo_init_59 (fun H locs hP hD hS => ?_)
  have X : zz_X D vwCl [(c1, .int), (c2, .int), (c3, .int), (c4, .int), (c5, .int), (c6, .int), (c7, .int)] A s H locs [(h0, .inr (9, [.ref q1, .ref q2, .ref q3, .ref q4, .ref q5, .ref q6, .ref q7, .null, .null, .null, .null, .null, .null, .null, .null, .null, .null, .null, .null, .null, .int 0, .int 0, .int 0, .int 0, .int 0, .int 0, .int 0, .int 0, .int 0])), (q1, .inl (c1, 32, .inl (fun _ => 0))), (q2, .inl (c2, 32, .inl (fun _ => 0))), (q3, .inl (c3, 32, .inl (fun _ => 0))), (q4, .inl (c4, 32, .inl (fun _ => 0))), (q5, .inl (c5, 32, .inl (fun _ => 0))), (q6, .inl (c6, 256, .inl (fun _ => 0))), (q7, .inl (c7, 256, .inl (fun _ => 0)))] := ⟨X.1, hP, hD, hS, X.2.2.2.2⟩
  refine lv_aload_n hx hb zd_Mo_init_62 rfl (lv_at hl 0 rfl) ?_
  refine lv_sipush (v := 256) hx hb zd_Mo_init_63 (by decide) ?_
  refine zr_newa (atype := .int) (ty := .int) (N' := 256) (a0 := (256, .inl (fun _ => 0))) rfl hx hb hts zo_aI X (fun cA => rfl) (by decide) (by decide) (by decide) ⟨Nat.le_of_ble_eq_true rfl, Nat.le_of_ble_eq_true rfl⟩ zd_Mo_init_66 (fun q8 c8 H X => ?_)
  have X : zz_X D vwCl [(c1, .int), (c2, .int), (c3, .int), (c4, .int), (c5, .int), (c6, .int), (c7, .int), (c8, .int)] A s H _ [(h0, .inr (9, [.ref q1, .ref q2, .ref q3, .ref q4, .ref q5, .ref q6, .ref q7, .null, .null, .null, .null, .null, .null, .null, .null, .null, .null, .null, .null, .null, .int 0, .int 0, .int 0, .int 0, .int 0, .int 0, .int 0, .int 0, .int 0])), (q1, .inl (c1, 32, .inl (fun _ => 0))), (q2, .inl (c2, 32, .inl (fun _ => 0))), (q3, .inl (c3, 32, .inl (fun _ => 0))), (q4, .inl (c4, 32, .inl (fun _ => 0))), (q5, .inl (c5, 32, .inl (fun _ => 0))), (q6, .inl (c6, 256, .inl (fun _ => 0))), (q7, .inl (c7, 256, .inl (fun _ => 0))), (q8, .inl (c8, 256, .inl (fun _ => 0)))] := X
  refine va_putF (D := D) (ci := 9) (v := .ref q8) (ty := (.array .int)) (C := zR_Mo) (T := zT_Mo) (N := 29) hx hb hts zi_Mo zt_Mo zo_Mo zn_Mo hown X.1 X.2.1 X.2.2.1 X.2.2.2.1 0 rfl rfl 7 (by decide) (hts _ zif_Mo_init_31) (fun _ h9 => h9) rfl hin rfl (by decide +kernel) rfl rfl (Nat.le_of_ble_eq_true rfl) zd_Mo_init_68 (fun H locs hP hD hS => ?_)
  have X : zz_X D vwCl [(c1, .int), (c2, .int), (c3, .int), (c4, .int), (c5, .int), (c6, .int), (c7, .int), (c8, .int)] A s H locs [(h0, .inr (9, [.ref q1, .ref q2, .ref q3, .ref q4, .ref q5, .ref q6, .ref q7, .ref q8, .null, .null, .null, .null, .null, .null, .null, .null, .null, .null, .null, .null, .int 0, .int 0, .int 0, .int 0, .int 0, .int 0, .int 0, .int 0, .int 0])), (q1, .inl (c1, 32, .inl (fun _ => 0))), (q2, .inl (c2, 32, .inl (fun _ => 0))), (q3, .inl (c3, 32, .inl (fun _ => 0))), (q4, .inl (c4, 32, .inl (fun _ => 0))), (q5, .inl (c5, 32, .inl (fun _ => 0))), (q6, .inl (c6, 256, .inl (fun _ => 0))), (q7, .inl (c7, 256, .inl (fun _ => 0))), (q8, .inl (c8, 256, .inl (fun _ => 0)))] := ⟨X.1, hP, hD, hS, X.2.2.2.2⟩
  refine lv_aload_n hx hb zd_Mo_init_71 rfl (lv_at hl 0 rfl) ?_
  refine lv_bipush (v := 8) hx hb zd_Mo_init_72 (by decide) ?_
  refine zr_newa (atype := .int) (ty := .int) (N' := 8) (a0 := (8, .inl (fun _ => 0))) rfl hx hb hts zo_aI X (fun cA => rfl) (by decide) (by decide) (by decide) ⟨Nat.le_of_ble_eq_true rfl, Nat.le_of_ble_eq_true rfl⟩ zd_Mo_init_74 (fun q9 c9 H X => ?_)
  have X : zz_X D vwCl [(c1, .int), (c2, .int), (c3, .int), (c4, .int), (c5, .int), (c6, .int), (c7, .int), (c8, .int), (c9, .int)] A s H _ [(h0, .inr (9, [.ref q1, .ref q2, .ref q3, .ref q4, .ref q5, .ref q6, .ref q7, .ref q8, .null, .null, .null, .null, .null, .null, .null, .null, .null, .null, .null, .null, .int 0, .int 0, .int 0, .int 0, .int 0, .int 0, .int 0, .int 0, .int 0])), (q1, .inl (c1, 32, .inl (fun _ => 0))), (q2, .inl (c2, 32, .inl (fun _ => 0))), (q3, .inl (c3, 32, .inl (fun _ => 0))), (q4, .inl (c4, 32, .inl (fun _ => 0))), (q5, .inl (c5, 32, .inl (fun _ => 0))), (q6, .inl (c6, 256, .inl (fun _ => 0))), (q7, .inl (c7, 256, .inl (fun _ => 0))), (q8, .inl (c8, 256, .inl (fun _ => 0))), (q9, .inl (c9, 8, .inl (fun _ => 0)))] := X
  refine va_putF (D := D) (ci := 9) (v := .ref q9) (ty := (.array .int)) (C := zR_Mo) (T := zT_Mo) (N := 29) hx hb hts zi_Mo zt_Mo zo_Mo zn_Mo hown X.1 X.2.1 X.2.2.1 X.2.2.2.1 0 rfl rfl 8 (by decide) (hts _ zif_Mo_init_34) (fun _ h9 => h9) rfl hin rfl (by decide +kernel) rfl rfl (Nat.le_of_ble_eq_true rfl) zd_Mo_init_76 (fun H locs hP hD hS => ?_)
  have X : zz_X D vwCl [(c1, .int), (c2, .int), (c3, .int), (c4, .int), (c5, .int), (c6, .int), (c7, .int), (c8, .int), (c9, .int)] A s H locs [(h0, .inr (9, [.ref q1, .ref q2, .ref q3, .ref q4, .ref q5, .ref q6, .ref q7, .ref q8, .ref q9, .null, .null, .null, .null, .null, .null, .null, .null, .null, .null, .null, .int 0, .int 0, .int 0, .int 0, .int 0, .int 0, .int 0, .int 0, .int 0])), (q1, .inl (c1, 32, .inl (fun _ => 0))), (q2, .inl (c2, 32, .inl (fun _ => 0))), (q3, .inl (c3, 32, .inl (fun _ => 0))), (q4, .inl (c4, 32, .inl (fun _ => 0))), (q5, .inl (c5, 32, .inl (fun _ => 0))), (q6, .inl (c6, 256, .inl (fun _ => 0))), (q7, .inl (c7, 256, .inl (fun _ => 0))), (q8, .inl (c8, 256, .inl (fun _ => 0))), (q9, .inl (c9, 8, .inl (fun _ => 0)))] := ⟨X.1, hP, hD, hS, X.2.2.2.2⟩
  refine lv_aload_n hx hb zd_Mo_init_79 rfl (lv_at hl 0 rfl) ?_
  refine lv_bipush (v := 8) hx hb zd_Mo_init_80 (by decide) ?_
  refine zr_newa (atype := .int) (ty := .int) (N' := 8) (a0 := (8, .inl (fun _ => 0))) rfl hx hb hts zo_aI X (fun cA => rfl) (by decide) (by decide) (by decide) ⟨Nat.le_of_ble_eq_true rfl, Nat.le_of_ble_eq_true rfl⟩ zd_Mo_init_82 (fun q10 c10 H X => ?_)
  have X : zz_X D vwCl [(c1, .int), (c2, .int), (c3, .int), (c4, .int), (c5, .int), (c6, .int), (c7, .int), (c8, .int), (c9, .int), (c10, .int)] A s H _ [(h0, .inr (9, [.ref q1, .ref q2, .ref q3, .ref q4, .ref q5, .ref q6, .ref q7, .ref q8, .ref q9, .null, .null, .null, .null, .null, .null, .null, .null, .null, .null, .null, .int 0, .int 0, .int 0, .int 0, .int 0, .int 0, .int 0, .int 0, .int 0])), (q1, .inl (c1, 32, .inl (fun _ => 0))), (q2, .inl (c2, 32, .inl (fun _ => 0))), (q3, .inl (c3, 32, .inl (fun _ => 0))), (q4, .inl (c4, 32, .inl (fun _ => 0))), (q5, .inl (c5, 32, .inl (fun _ => 0))), (q6, .inl (c6, 256, .inl (fun _ => 0))), (q7, .inl (c7, 256, .inl (fun _ => 0))), (q8, .inl (c8, 256, .inl (fun _ => 0))), (q9, .inl (c9, 8, .inl (fun _ => 0))), (q10, .inl (c10, 8, .inl (fun _ => 0)))] := X
  refine va_putF (D := D) (ci := 9) (v := .ref q10) (ty := (.array .int)) (C := zR_Mo) (T := zT_Mo) (N := 29) hx hb hts zi_Mo zt_Mo zo_Mo zn_Mo hown X.1 X.2.1 X.2.2.1 X.2.2.2.1 0 rfl rfl 9 (by decide) (hts _ zif_Mo_init_37) (fun _ h9 => h9) rfl hin rfl (by decide +kernel) rfl rfl (Nat.le_of_ble_eq_true rfl) zd_Mo_init_84 (fun H locs hP hD hS => ?_)
  have X : zz_X D vwCl [(c1, .int), (c2, .int), (c3, .int), (c4, .int), (c5, .int), (c6, .int), (c7, .int), (c8, .int), (c9, .int), (c10, .int)] A s H locs [(h0, .inr (9, [.ref q1, .ref q2, .ref q3, .ref q4, .ref q5, .ref q6, .ref q7, .ref q8, .ref q9, .ref q10, .null, .null, .null, .null, .null, .null, .null, .null, .null, .null, .int 0, .int 0, .int 0, .int 0, .int 0, .int 0, .int 0, .int 0, .int 0])), (q1, .inl (c1, 32, .inl (fun _ => 0))), (q2, .inl (c2, 32, .inl (fun _ => 0))), (q3, .inl (c3, 32, .inl (fun _ => 0))), (q4, .inl (c4, 32, .inl (fun _ => 0))), (q5, .inl (c5, 32, .inl (fun _ => 0))), (q6, .inl (c6, 256, .inl (fun _ => 0))), (q7, .inl (c7, 256, .inl (fun _ => 0))), (q8, .inl (c8, 256, .inl (fun _ => 0))), (q9, .inl (c9, 8, .inl (fun _ => 0))), (q10, .inl (c10, 8, .inl (fun _ => 0)))] := ⟨X.1, hP, hD, hS, X.2.2.2.2⟩
  refine lv_aload_n hx hb zd_Mo_init_87 rfl (lv_at hl 0 rfl) ?_
  refine lv_bipush (v := 10) hx hb zd_Mo_init_88 (by decide) ?_
  refine zr_newa (atype := .int) (ty := .int) (N' := 10) (a0 := (10, .inl (fun _ => 0))) rfl hx hb hts zo_aI X (fun cA => rfl) (by decide) (by decide) (by decide) ⟨Nat.le_of_ble_eq_true rfl, Nat.le_of_ble_eq_true rfl⟩ zd_Mo_init_90 (fun q11 c11 H X => ?_)
  have X : zz_X D vwCl [(c1, .int), (c2, .int), (c3, .int), (c4, .int), (c5, .int), (c6, .int), (c7, .int), (c8, .int), (c9, .int), (c10, .int), (c11, .int)] A s H _ [(h0, .inr (9, [.ref q1, .ref q2, .ref q3, .ref q4, .ref q5, .ref q6, .ref q7, .ref q8, .ref q9, .ref q10, .null, .null, .null, .null, .null, .null, .null, .null, .null, .null, .int 0, .int 0, .int 0, .int 0, .int 0, .int 0, .int 0, .int 0, .int 0])), (q1, .inl (c1, 32, .inl (fun _ => 0))), (q2, .inl (c2, 32, .inl (fun _ => 0))), (q3, .inl (c3, 32, .inl (fun _ => 0))), (q4, .inl (c4, 32, .inl (fun _ => 0))), (q5, .inl (c5, 32, .inl (fun _ => 0))), (q6, .inl (c6, 256, .inl (fun _ => 0))), (q7, .inl (c7, 256, .inl (fun _ => 0))), (q8, .inl (c8, 256, .inl (fun _ => 0))), (q9, .inl (c9, 8, .inl (fun _ => 0))), (q10, .inl (c10, 8, .inl (fun _ => 0))), (q11, .inl (c11, 10, .inl (fun _ => 0)))] := X
  refine va_putF (D := D) (ci := 9) (v := .ref q11) (ty := (.array .int)) (C := zR_Mo) (T := zT_Mo) (N := 29) hx hb hts zi_Mo zt_Mo zo_Mo zn_Mo hown X.1 X.2.1 X.2.2.1 X.2.2.2.1 0 rfl rfl 10 (by decide) (hts _ zif_Mo_init_40) (fun _ h9 => h9) rfl hin rfl (by decide +kernel) rfl rfl (Nat.le_of_ble_eq_true rfl) zd_Mo_init_92 (fun H locs hP hD hS => ?_)
  have X : zz_X D vwCl [(c1, .int), (c2, .int), (c3, .int), (c4, .int), (c5, .int), (c6, .int), (c7, .int), (c8, .int), (c9, .int), (c10, .int), (c11, .int)] A s H locs [(h0, .inr (9, [.ref q1, .ref q2, .ref q3, .ref q4, .ref q5, .ref q6, .ref q7, .ref q8, .ref q9, .ref q10, .ref q11, .null, .null, .null, .null, .null, .null, .null, .null, .null, .int 0, .int 0, .int 0, .int 0, .int 0, .int 0, .int 0, .int 0, .int 0])), (q1, .inl (c1, 32, .inl (fun _ => 0))), (q2, .inl (c2, 32, .inl (fun _ => 0))), (q3, .inl (c3, 32, .inl (fun _ => 0))), (q4, .inl (c4, 32, .inl (fun _ => 0))), (q5, .inl (c5, 32, .inl (fun _ => 0))), (q6, .inl (c6, 256, .inl (fun _ => 0))), (q7, .inl (c7, 256, .inl (fun _ => 0))), (q8, .inl (c8, 256, .inl (fun _ => 0))), (q9, .inl (c9, 8, .inl (fun _ => 0))), (q10, .inl (c10, 8, .inl (fun _ => 0))), (q11, .inl (c11, 10, .inl (fun _ => 0)))] := ⟨X.1, hP, hD, hS, X.2.2.2.2⟩
  refine lv_aload_n hx hb zd_Mo_init_95 rfl (lv_at hl 0 rfl) ?_
  refine lv_bipush (v := 10) hx hb zd_Mo_init_96 (by decide) ?_
  refine zr_newa (atype := .int) (ty := .int) (N' := 10) (a0 := (10, .inl (fun _ => 0))) rfl hx hb hts zo_aI X (fun cA => rfl) (by decide) (by decide) (by decide) ⟨Nat.le_of_ble_eq_true rfl, Nat.le_of_ble_eq_true rfl⟩ zd_Mo_init_98 (fun q12 c12 H X => ?_)
  have X : zz_X D vwCl [(c1, .int), (c2, .int), (c3, .int), (c4, .int), (c5, .int), (c6, .int), (c7, .int), (c8, .int), (c9, .int), (c10, .int), (c11, .int), (c12, .int)] A s H _ [(h0, .inr (9, [.ref q1, .ref q2, .ref q3, .ref q4, .ref q5, .ref q6, .ref q7, .ref q8, .ref q9, .ref q10, .ref q11, .null, .null, .null, .null, .null, .null, .null, .null, .null, .int 0, .int 0, .int 0, .int 0, .int 0, .int 0, .int 0, .int 0, .int 0])), (q1, .inl (c1, 32, .inl (fun _ => 0))), (q2, .inl (c2, 32, .inl (fun _ => 0))), (q3, .inl (c3, 32, .inl (fun _ => 0))), (q4, .inl (c4, 32, .inl (fun _ => 0))), (q5, .inl (c5, 32, .inl (fun _ => 0))), (q6, .inl (c6, 256, .inl (fun _ => 0))), (q7, .inl (c7, 256, .inl (fun _ => 0))), (q8, .inl (c8, 256, .inl (fun _ => 0))), (q9, .inl (c9, 8, .inl (fun _ => 0))), (q10, .inl (c10, 8, .inl (fun _ => 0))), (q11, .inl (c11, 10, .inl (fun _ => 0))), (q12, .inl (c12, 10, .inl (fun _ => 0)))] := X
  refine va_putF (D := D) (ci := 9) (v := .ref q12) (ty := (.array .int)) (C := zR_Mo) (T := zT_Mo) (N := 29) hx hb hts zi_Mo zt_Mo zo_Mo zn_Mo hown X.1 X.2.1 X.2.2.1 X.2.2.2.1 0 rfl rfl 11 (by decide) (hts _ zif_Mo_init_43) (fun _ h9 => h9) rfl hin rfl (by decide +kernel) rfl rfl (Nat.le_of_ble_eq_true rfl) zd_Mo_init_100 (fun H locs hP hD hS => ?_)
  have X : zz_X D vwCl [(c1, .int), (c2, .int), (c3, .int), (c4, .int), (c5, .int), (c6, .int), (c7, .int), (c8, .int), (c9, .int), (c10, .int), (c11, .int), (c12, .int)] A s H locs [(h0, .inr (9, [.ref q1, .ref q2, .ref q3, .ref q4, .ref q5, .ref q6, .ref q7, .ref q8, .ref q9, .ref q10, .ref q11, .ref q12, .null, .null, .null, .null, .null, .null, .null, .null, .int 0, .int 0, .int 0, .int 0, .int 0, .int 0, .int 0, .int 0, .int 0])), (q1, .inl (c1, 32, .inl (fun _ => 0))), (q2, .inl (c2, 32, .inl (fun _ => 0))), (q3, .inl (c3, 32, .inl (fun _ => 0))), (q4, .inl (c4, 32, .inl (fun _ => 0))), (q5, .inl (c5, 32, .inl (fun _ => 0))), (q6, .inl (c6, 256, .inl (fun _ => 0))), (q7, .inl (c7, 256, .inl (fun _ => 0))), (q8, .inl (c8, 256, .inl (fun _ => 0))), (q9, .inl (c9, 8, .inl (fun _ => 0))), (q10, .inl (c10, 8, .inl (fun _ => 0))), (q11, .inl (c11, 10, .inl (fun _ => 0))), (q12, .inl (c12, 10, .inl (fun _ => 0)))] := ⟨X.1, hP, hD, hS, X.2.2.2.2⟩
  refine lv_aload_n hx hb zd_Mo_init_103 rfl (lv_at hl 0 rfl) ?_
  refine lv_bipush (v := 10) hx hb zd_Mo_init_104 (by decide) ?_
  refine zr_newa (atype := .int) (ty := .int) (N' := 10) (a0 := (10, .inl (fun _ => 0))) rfl hx hb hts zo_aI X (fun cA => rfl) (by decide) (by decide) (by decide) ⟨Nat.le_of_ble_eq_true rfl, Nat.le_of_ble_eq_true rfl⟩ zd_Mo_init_106 (fun q13 c13 H X => ?_)
  have X : zz_X D vwCl [(c1, .int), (c2, .int), (c3, .int), (c4, .int), (c5, .int), (c6, .int), (c7, .int), (c8, .int), (c9, .int), (c10, .int), (c11, .int), (c12, .int), (c13, .int)] A s H _ [(h0, .inr (9, [.ref q1, .ref q2, .ref q3, .ref q4, .ref q5, .ref q6, .ref q7, .ref q8, .ref q9, .ref q10, .ref q11, .ref q12, .null, .null, .null, .null, .null, .null, .null, .null, .int 0, .int 0, .int 0, .int 0, .int 0, .int 0, .int 0, .int 0, .int 0])), (q1, .inl (c1, 32, .inl (fun _ => 0))), (q2, .inl (c2, 32, .inl (fun _ => 0))), (q3, .inl (c3, 32, .inl (fun _ => 0))), (q4, .inl (c4, 32, .inl (fun _ => 0))), (q5, .inl (c5, 32, .inl (fun _ => 0))), (q6, .inl (c6, 256, .inl (fun _ => 0))), (q7, .inl (c7, 256, .inl (fun _ => 0))), (q8, .inl (c8, 256, .inl (fun _ => 0))), (q9, .inl (c9, 8, .inl (fun _ => 0))), (q10, .inl (c10, 8, .inl (fun _ => 0))), (q11, .inl (c11, 10, .inl (fun _ => 0))), (q12, .inl (c12, 10, .inl (fun _ => 0))), (q13, .inl (c13, 10, .inl (fun _ => 0)))] := X
  refine va_putF (D := D) (ci := 9) (v := .ref q13) (ty := (.array .int)) (C := zR_Mo) (T := zT_Mo) (N := 29) hx hb hts zi_Mo zt_Mo zo_Mo zn_Mo hown X.1 X.2.1 X.2.2.1 X.2.2.2.1 0 rfl rfl 12 (by decide) (hts _ zif_Mo_init_46) (fun _ h9 => h9) rfl hin rfl (by decide +kernel) rfl rfl (Nat.le_of_ble_eq_true rfl) zd_Mo_init_108 (fun H locs hP hD hS => ?_)
  have X : zz_X D vwCl [(c1, .int), (c2, .int), (c3, .int), (c4, .int), (c5, .int), (c6, .int), (c7, .int), (c8, .int), (c9, .int), (c10, .int), (c11, .int), (c12, .int), (c13, .int)] A s H locs [(h0, .inr (9, [.ref q1, .ref q2, .ref q3, .ref q4, .ref q5, .ref q6, .ref q7, .ref q8, .ref q9, .ref q10, .ref q11, .ref q12, .ref q13, .null, .null, .null, .null, .null, .null, .null, .int 0, .int 0, .int 0, .int 0, .int 0, .int 0, .int 0, .int 0, .int 0])), (q1, .inl (c1, 32, .inl (fun _ => 0))), (q2, .inl (c2, 32, .inl (fun _ => 0))), (q3, .inl (c3, 32, .inl (fun _ => 0))), (q4, .inl (c4, 32, .inl (fun _ => 0))), (q5, .inl (c5, 32, .inl (fun _ => 0))), (q6, .inl (c6, 256, .inl (fun _ => 0))), (q7, .inl (c7, 256, .inl (fun _ => 0))), (q8, .inl (c8, 256, .inl (fun _ => 0))), (q9, .inl (c9, 8, .inl (fun _ => 0))), (q10, .inl (c10, 8, .inl (fun _ => 0))), (q11, .inl (c11, 10, .inl (fun _ => 0))), (q12, .inl (c12, 10, .inl (fun _ => 0))), (q13, .inl (c13, 10, .inl (fun _ => 0)))] := ⟨X.1, hP, hD, hS, X.2.2.2.2⟩
  refine lv_aload_n hx hb zd_Mo_init_111 rfl (lv_at hl 0 rfl) ?_
  refine lv_bipush (v := 10) hx hb zd_Mo_init_112 (by decide) ?_
  refine zr_newa (atype := .int) (ty := .int) (N' := 10) (a0 := (10, .inl (fun _ => 0))) rfl hx hb hts zo_aI X (fun cA => rfl) (by decide) (by decide) (by decide) ⟨Nat.le_of_ble_eq_true rfl, Nat.le_of_ble_eq_true rfl⟩ zd_Mo_init_114 (fun q14 c14 H X => ?_)
  have X : zz_X D vwCl [(c1, .int), (c2, .int), (c3, .int), (c4, .int), (c5, .int), (c6, .int), (c7, .int), (c8, .int), (c9, .int), (c10, .int), (c11, .int), (c12, .int), (c13, .int), (c14, .int)] A s H _ [(h0, .inr (9, [.ref q1, .ref q2, .ref q3, .ref q4, .ref q5, .ref q6, .ref q7, .ref q8, .ref q9, .ref q10, .ref q11, .ref q12, .ref q13, .null, .null, .null, .null, .null, .null, .null, .int 0, .int 0, .int 0, .int 0, .int 0, .int 0, .int 0, .int 0, .int 0])), (q1, .inl (c1, 32, .inl (fun _ => 0))), (q2, .inl (c2, 32, .inl (fun _ => 0))), (q3, .inl (c3, 32, .inl (fun _ => 0))), (q4, .inl (c4, 32, .inl (fun _ => 0))), (q5, .inl (c5, 32, .inl (fun _ => 0))), (q6, .inl (c6, 256, .inl (fun _ => 0))), (q7, .inl (c7, 256, .inl (fun _ => 0))), (q8, .inl (c8, 256, .inl (fun _ => 0))), (q9, .inl (c9, 8, .inl (fun _ => 0))), (q10, .inl (c10, 8, .inl (fun _ => 0))), (q11, .inl (c11, 10, .inl (fun _ => 0))), (q12, .inl (c12, 10, .inl (fun _ => 0))), (q13, .inl (c13, 10, .inl (fun _ => 0))), (q14, .inl (c14, 10, .inl (fun _ => 0)))] := X
  refine va_putF (D := D) (ci := 9) (v := .ref q14) (ty := (.array .int)) (C := zR_Mo) (T := zT_Mo) (N := 29) hx hb hts zi_Mo zt_Mo zo_Mo zn_Mo hown X.1 X.2.1 X.2.2.1 X.2.2.2.1 0 rfl rfl 13 (by decide) (hts _ zif_Mo_init_49) (fun _ h9 => h9) rfl hin rfl (by decide +kernel) rfl rfl (Nat.le_of_ble_eq_true rfl) zd_Mo_init_116 (fun H locs hP hD hS => ?_)
  have X : zz_X D vwCl [(c1, .int), (c2, .int), (c3, .int), (c4, .int), (c5, .int), (c6, .int), (c7, .int), (c8, .int), (c9, .int), (c10, .int), (c11, .int), (c12, .int), (c13, .int), (c14, .int)] A s H locs [(h0, .inr (9, [.ref q1, .ref q2, .ref q3, .ref q4, .ref q5, .ref q6, .ref q7, .ref q8, .ref q9, .ref q10, .ref q11, .ref q12, .ref q13, .ref q14, .null, .null, .null, .null, .null, .null, .int 0, .int 0, .int 0, .int 0, .int 0, .int 0, .int 0, .int 0, .int 0])), (q1, .inl (c1, 32, .inl (fun _ => 0))), (q2, .inl (c2, 32, .inl (fun _ => 0))), (q3, .inl (c3, 32, .inl (fun _ => 0))), (q4, .inl (c4, 32, .inl (fun _ => 0))), (q5, .inl (c5, 32, .inl (fun _ => 0))), (q6, .inl (c6, 256, .inl (fun _ => 0))), (q7, .inl (c7, 256, .inl (fun _ => 0))), (q8, .inl (c8, 256, .inl (fun _ => 0))), (q9, .inl (c9, 8, .inl (fun _ => 0))), (q10, .inl (c10, 8, .inl (fun _ => 0))), (q11, .inl (c11, 10, .inl (fun _ => 0))), (q12, .inl (c12, 10, .inl (fun _ => 0))), (q13, .inl (c13, 10, .inl (fun _ => 0))), (q14, .inl (c14, 10, .inl (fun _ => 0)))] := ⟨X.1, hP, hD, hS, X.2.2.2.2⟩
  refine lv_aload_n hx hb zd_Mo_init_119 rfl (lv_at hl 0 rfl) ?_
  refine lv_bipush (v := 10) hx hb zd_Mo_init_120 (by decide) ?_
  refine zr_newa (atype := .int) (ty := .int) (N' := 10) (a0 := (10, .inl (fun _ => 0))) rfl hx hb hts zo_aI X (fun cA => rfl) (by decide) (by decide) (by decide) ⟨Nat.le_of_ble_eq_true rfl, Nat.le_of_ble_eq_true rfl⟩ zd_Mo_init_122 (fun q15 c15 H X => ?_)
  have X : zz_X D vwCl [(c1, .int), (c2, .int), (c3, .int), (c4, .int), (c5, .int), (c6, .int), (c7, .int), (c8, .int), (c9, .int), (c10, .int), (c11, .int), (c12, .int), (c13, .int), (c14, .int), (c15, .int)] A s H _ [(h0, .inr (9, [.ref q1, .ref q2, .ref q3, .ref q4, .ref q5, .ref q6, .ref q7, .ref q8, .ref q9, .ref q10, .ref q11, .ref q12, .ref q13, .ref q14, .null, .null, .null, .null, .null, .null, .int 0, .int 0, .int 0, .int 0, .int 0, .int 0, .int 0, .int 0, .int 0])), (q1, .inl (c1, 32, .inl (fun _ => 0))), (q2, .inl (c2, 32, .inl (fun _ => 0))), (q3, .inl (c3, 32, .inl (fun _ => 0))), (q4, .inl (c4, 32, .inl (fun _ => 0))), (q5, .inl (c5, 32, .inl (fun _ => 0))), (q6, .inl (c6, 256, .inl (fun _ => 0))), (q7, .inl (c7, 256, .inl (fun _ => 0))), (q8, .inl (c8, 256, .inl (fun _ => 0))), (q9, .inl (c9, 8, .inl (fun _ => 0))), (q10, .inl (c10, 8, .inl (fun _ => 0))), (q11, .inl (c11, 10, .inl (fun _ => 0))), (q12, .inl (c12, 10, .inl (fun _ => 0))), (q13, .inl (c13, 10, .inl (fun _ => 0))), (q14, .inl (c14, 10, .inl (fun _ => 0))), (q15, .inl (c15, 10, .inl (fun _ => 0)))] := X
  refine va_putF (D := D) (ci := 9) (v := .ref q15) (ty := (.array .int)) (C := zR_Mo) (T := zT_Mo) (N := 29) hx hb hts zi_Mo zt_Mo zo_Mo zn_Mo hown X.1 X.2.1 X.2.2.1 X.2.2.2.1 0 rfl rfl 14 (by decide) (hts _ zif_Mo_init_52) (fun _ h9 => h9) rfl hin rfl (by decide +kernel) rfl rfl (Nat.le_of_ble_eq_true rfl) zd_Mo_init_124 (fun H locs hP hD hS => ?_)
  have X : zz_X D vwCl [(c1, .int), (c2, .int), (c3, .int), (c4, .int), (c5, .int), (c6, .int), (c7, .int), (c8, .int), (c9, .int), (c10, .int), (c11, .int), (c12, .int), (c13, .int), (c14, .int), (c15, .int)] A s H locs [(h0, .inr (9, [.ref q1, .ref q2, .ref q3, .ref q4, .ref q5, .ref q6, .ref q7, .ref q8, .ref q9, .ref q10, .ref q11, .ref q12, .ref q13, .ref q14, .ref q15, .null, .null, .null, .null, .null, .int 0, .int 0, .int 0, .int 0, .int 0, .int 0, .int 0, .int 0, .int 0])), (q1, .inl (c1, 32, .inl (fun _ => 0))), (q2, .inl (c2, 32, .inl (fun _ => 0))), (q3, .inl (c3, 32, .inl (fun _ => 0))), (q4, .inl (c4, 32, .inl (fun _ => 0))), (q5, .inl (c5, 32, .inl (fun _ => 0))), (q6, .inl (c6, 256, .inl (fun _ => 0))), (q7, .inl (c7, 256, .inl (fun _ => 0))), (q8, .inl (c8, 256, .inl (fun _ => 0))), (q9, .inl (c9, 8, .inl (fun _ => 0))), (q10, .inl (c10, 8, .inl (fun _ => 0))), (q11, .inl (c11, 10, .inl (fun _ => 0))), (q12, .inl (c12, 10, .inl (fun _ => 0))), (q13, .inl (c13, 10, .inl (fun _ => 0))), (q14, .inl (c14, 10, .inl (fun _ => 0))), (q15, .inl (c15, 10, .inl (fun _ => 0)))] := ⟨X.1, hP, hD, hS, X.2.2.2.2⟩
  refine lv_aload_n hx hb zd_Mo_init_127 rfl (lv_at hl 0 rfl) ?_
  refine lv_bipush (v := 24) hx hb zd_Mo_init_128 (by decide) ?_
  refine zr_newa (atype := .int) (ty := .int) (N' := 24) (a0 := (24, .inl (fun _ => 0))) rfl hx hb hts zo_aI X (fun cA => rfl) (by decide) (by decide) (by decide) ⟨Nat.le_of_ble_eq_true rfl, Nat.le_of_ble_eq_true rfl⟩ zd_Mo_init_130 (fun q16 c16 H X => ?_)
  have X : zz_X D vwCl [(c1, .int), (c2, .int), (c3, .int), (c4, .int), (c5, .int), (c6, .int), (c7, .int), (c8, .int), (c9, .int), (c10, .int), (c11, .int), (c12, .int), (c13, .int), (c14, .int), (c15, .int), (c16, .int)] A s H _ [(h0, .inr (9, [.ref q1, .ref q2, .ref q3, .ref q4, .ref q5, .ref q6, .ref q7, .ref q8, .ref q9, .ref q10, .ref q11, .ref q12, .ref q13, .ref q14, .ref q15, .null, .null, .null, .null, .null, .int 0, .int 0, .int 0, .int 0, .int 0, .int 0, .int 0, .int 0, .int 0])), (q1, .inl (c1, 32, .inl (fun _ => 0))), (q2, .inl (c2, 32, .inl (fun _ => 0))), (q3, .inl (c3, 32, .inl (fun _ => 0))), (q4, .inl (c4, 32, .inl (fun _ => 0))), (q5, .inl (c5, 32, .inl (fun _ => 0))), (q6, .inl (c6, 256, .inl (fun _ => 0))), (q7, .inl (c7, 256, .inl (fun _ => 0))), (q8, .inl (c8, 256, .inl (fun _ => 0))), (q9, .inl (c9, 8, .inl (fun _ => 0))), (q10, .inl (c10, 8, .inl (fun _ => 0))), (q11, .inl (c11, 10, .inl (fun _ => 0))), (q12, .inl (c12, 10, .inl (fun _ => 0))), (q13, .inl (c13, 10, .inl (fun _ => 0))), (q14, .inl (c14, 10, .inl (fun _ => 0))), (q15, .inl (c15, 10, .inl (fun _ => 0))), (q16, .inl (c16, 24, .inl (fun _ => 0)))] := X
  refine va_putF (D := D) (ci := 9) (v := .ref q16) (ty := (.array .int)) (C := zR_Mo) (T := zT_Mo) (N := 29) hx hb hts zi_Mo zt_Mo zo_Mo zn_Mo hown X.1 X.2.1 X.2.2.1 X.2.2.2.1 0 rfl rfl 15 (by decide) (hts _ zif_Mo_init_55) (fun _ h9 => h9) rfl hin rfl (by decide +kernel) rfl rfl (Nat.le_of_ble_eq_true rfl) zd_Mo_init_132 (fun H locs hP hD hS => ?_)
  have X : zz_X D vwCl [(c1, .int), (c2, .int), (c3, .int), (c4, .int), (c5, .int), (c6, .int), (c7, .int), (c8, .int), (c9, .int), (c10, .int), (c11, .int), (c12, .int), (c13, .int), (c14, .int), (c15, .int), (c16, .int)] A s H locs [(h0, .inr (9, [.ref q1, .ref q2, .ref q3, .ref q4, .ref q5, .ref q6, .ref q7, .ref q8, .ref q9, .ref q10, .ref q11, .ref q12, .ref q13, .ref q14, .ref q15, .ref q16, .null, .null, .null, .null, .int 0, .int 0, .int 0, .int 0, .int 0, .int 0, .int 0, .int 0, .int 0])), (q1, .inl (c1, 32, .inl (fun _ => 0))), (q2, .inl (c2, 32, .inl (fun _ => 0))), (q3, .inl (c3, 32, .inl (fun _ => 0))), (q4, .inl (c4, 32, .inl (fun _ => 0))), (q5, .inl (c5, 32, .inl (fun _ => 0))), (q6, .inl (c6, 256, .inl (fun _ => 0))), (q7, .inl (c7, 256, .inl (fun _ => 0))), (q8, .inl (c8, 256, .inl (fun _ => 0))), (q9, .inl (c9, 8, .inl (fun _ => 0))), (q10, .inl (c10, 8, .inl (fun _ => 0))), (q11, .inl (c11, 10, .inl (fun _ => 0))), (q12, .inl (c12, 10, .inl (fun _ => 0))), (q13, .inl (c13, 10, .inl (fun _ => 0))), (q14, .inl (c14, 10, .inl (fun _ => 0))), (q15, .inl (c15, 10, .inl (fun _ => 0))), (q16, .inl (c16, 24, .inl (fun _ => 0)))] := ⟨X.1, hP, hD, hS, X.2.2.2.2⟩
  refine lv_aload_n hx hb zd_Mo_init_135 rfl (lv_at hl 0 rfl) ?_
  refine lv_bipush (v := 24) hx hb zd_Mo_init_136 (by decide) ?_
  refine zr_newa (atype := .int) (ty := .int) (N' := 24) (a0 := (24, .inl (fun _ => 0))) rfl hx hb hts zo_aI X (fun cA => rfl) (by decide) (by decide) (by decide) ⟨Nat.le_of_ble_eq_true rfl, Nat.le_of_ble_eq_true rfl⟩ zd_Mo_init_138 (fun q17 c17 H X => ?_)
  have X : zz_X D vwCl [(c1, .int), (c2, .int), (c3, .int), (c4, .int), (c5, .int), (c6, .int), (c7, .int), (c8, .int), (c9, .int), (c10, .int), (c11, .int), (c12, .int), (c13, .int), (c14, .int), (c15, .int), (c16, .int), (c17, .int)] A s H _ [(h0, .inr (9, [.ref q1, .ref q2, .ref q3, .ref q4, .ref q5, .ref q6, .ref q7, .ref q8, .ref q9, .ref q10, .ref q11, .ref q12, .ref q13, .ref q14, .ref q15, .ref q16, .null, .null, .null, .null, .int 0, .int 0, .int 0, .int 0, .int 0, .int 0, .int 0, .int 0, .int 0])), (q1, .inl (c1, 32, .inl (fun _ => 0))), (q2, .inl (c2, 32, .inl (fun _ => 0))), (q3, .inl (c3, 32, .inl (fun _ => 0))), (q4, .inl (c4, 32, .inl (fun _ => 0))), (q5, .inl (c5, 32, .inl (fun _ => 0))), (q6, .inl (c6, 256, .inl (fun _ => 0))), (q7, .inl (c7, 256, .inl (fun _ => 0))), (q8, .inl (c8, 256, .inl (fun _ => 0))), (q9, .inl (c9, 8, .inl (fun _ => 0))), (q10, .inl (c10, 8, .inl (fun _ => 0))), (q11, .inl (c11, 10, .inl (fun _ => 0))), (q12, .inl (c12, 10, .inl (fun _ => 0))), (q13, .inl (c13, 10, .inl (fun _ => 0))), (q14, .inl (c14, 10, .inl (fun _ => 0))), (q15, .inl (c15, 10, .inl (fun _ => 0))), (q16, .inl (c16, 24, .inl (fun _ => 0))), (q17, .inl (c17, 24, .inl (fun _ => 0)))] := X
  refine va_putF (D := D) (ci := 9) (v := .ref q17) (ty := (.array .int)) (C := zR_Mo) (T := zT_Mo) (N := 29) hx hb hts zi_Mo zt_Mo zo_Mo zn_Mo hown X.1 X.2.1 X.2.2.1 X.2.2.2.1 0 rfl rfl 16 (by decide) (hts _ zif_Mo_init_58) (fun _ h9 => h9) rfl hin rfl (by decide +kernel) rfl rfl (Nat.le_of_ble_eq_true rfl) zd_Mo_init_140 (fun H locs hP hD hS => ?_)
  have X : zz_X D vwCl [(c1, .int), (c2, .int), (c3, .int), (c4, .int), (c5, .int), (c6, .int), (c7, .int), (c8, .int), (c9, .int), (c10, .int), (c11, .int), (c12, .int), (c13, .int), (c14, .int), (c15, .int), (c16, .int), (c17, .int)] A s H locs [(h0, .inr (9, [.ref q1, .ref q2, .ref q3, .ref q4, .ref q5, .ref q6, .ref q7, .ref q8, .ref q9, .ref q10, .ref q11, .ref q12, .ref q13, .ref q14, .ref q15, .ref q16, .ref q17, .null, .null, .null, .int 0, .int 0, .int 0, .int 0, .int 0, .int 0, .int 0, .int 0, .int 0])), (q1, .inl (c1, 32, .inl (fun _ => 0))), (q2, .inl (c2, 32, .inl (fun _ => 0))), (q3, .inl (c3, 32, .inl (fun _ => 0))), (q4, .inl (c4, 32, .inl (fun _ => 0))), (q5, .inl (c5, 32, .inl (fun _ => 0))), (q6, .inl (c6, 256, .inl (fun _ => 0))), (q7, .inl (c7, 256, .inl (fun _ => 0))), (q8, .inl (c8, 256, .inl (fun _ => 0))), (q9, .inl (c9, 8, .inl (fun _ => 0))), (q10, .inl (c10, 8, .inl (fun _ => 0))), (q11, .inl (c11, 10, .inl (fun _ => 0))), (q12, .inl (c12, 10, .inl (fun _ => 0))), (q13, .inl (c13, 10, .inl (fun _ => 0))), (q14, .inl (c14, 10, .inl (fun _ => 0))), (q15, .inl (c15, 10, .inl (fun _ => 0))), (q16, .inl (c16, 24, .inl (fun _ => 0))), (q17, .inl (c17, 24, .inl (fun _ => 0)))] := ⟨X.1, hP, hD, hS, X.2.2.2.2⟩
  refine lv_aload_n hx hb zd_Mo_init_143 rfl (lv_at hl 0 rfl) ?_
  refine lv_bipush (v := 24) hx hb zd_Mo_init_144 (by decide) ?_
  refine zr_newa (atype := .int) (ty := .int) (N' := 24) (a0 := (24, .inl (fun _ => 0))) rfl hx hb hts zo_aI X (fun cA => rfl) (by decide) (by decide) (by decide) ⟨Nat.le_of_ble_eq_true rfl, Nat.le_of_ble_eq_true rfl⟩ zd_Mo_init_146 (fun q18 c18 H X => ?_)
  have X : zz_X D vwCl [(c1, .int), (c2, .int), (c3, .int), (c4, .int), (c5, .int), (c6, .int), (c7, .int), (c8, .int), (c9, .int), (c10, .int), (c11, .int), (c12, .int), (c13, .int), (c14, .int), (c15, .int), (c16, .int), (c17, .int), (c18, .int)] A s H _ [(h0, .inr (9, [.ref q1, .ref q2, .ref q3, .ref q4, .ref q5, .ref q6, .ref q7, .ref q8, .ref q9, .ref q10, .ref q11, .ref q12, .ref q13, .ref q14, .ref q15, .ref q16, .ref q17, .null, .null, .null, .int 0, .int 0, .int 0, .int 0, .int 0, .int 0, .int 0, .int 0, .int 0])), (q1, .inl (c1, 32, .inl (fun _ => 0))), (q2, .inl (c2, 32, .inl (fun _ => 0))), (q3, .inl (c3, 32, .inl (fun _ => 0))), (q4, .inl (c4, 32, .inl (fun _ => 0))), (q5, .inl (c5, 32, .inl (fun _ => 0))), (q6, .inl (c6, 256, .inl (fun _ => 0))), (q7, .inl (c7, 256, .inl (fun _ => 0))), (q8, .inl (c8, 256, .inl (fun _ => 0))), (q9, .inl (c9, 8, .inl (fun _ => 0))), (q10, .inl (c10, 8, .inl (fun _ => 0))), (q11, .inl (c11, 10, .inl (fun _ => 0))), (q12, .inl (c12, 10, .inl (fun _ => 0))), (q13, .inl (c13, 10, .inl (fun _ => 0))), (q14, .inl (c14, 10, .inl (fun _ => 0))), (q15, .inl (c15, 10, .inl (fun _ => 0))), (q16, .inl (c16, 24, .inl (fun _ => 0))), (q17, .inl (c17, 24, .inl (fun _ => 0))), (q18, .inl (c18, 24, .inl (fun _ => 0)))] := X
  refine va_putF (D := D) (ci := 9) (v := .ref q18) (ty := (.array .int)) (C := zR_Mo) (T := zT_Mo) (N := 29) hx hb hts zi_Mo zt_Mo zo_Mo zn_Mo hown X.1 X.2.1 X.2.2.1 X.2.2.2.1 0 rfl rfl 17 (by decide) (hts _ zif_Mo_init_61) (fun _ h9 => h9) rfl hin rfl (by decide +kernel) rfl rfl (Nat.le_of_ble_eq_true rfl) zd_Mo_init_148 (fun H locs hP hD hS => ?_)
  have X : zz_X D vwCl [(c1, .int), (c2, .int), (c3, .int), (c4, .int), (c5, .int), (c6, .int), (c7, .int), (c8, .int), (c9, .int), (c10, .int), (c11, .int), (c12, .int), (c13, .int), (c14, .int), (c15, .int), (c16, .int), (c17, .int), (c18, .int)] A s H locs [(h0, .inr (9, [.ref q1, .ref q2, .ref q3, .ref q4, .ref q5, .ref q6, .ref q7, .ref q8, .ref q9, .ref q10, .ref q11, .ref q12, .ref q13, .ref q14, .ref q15, .ref q16, .ref q17, .ref q18, .null, .null, .int 0, .int 0, .int 0, .int 0, .int 0, .int 0, .int 0, .int 0, .int 0])), (q1, .inl (c1, 32, .inl (fun _ => 0))), (q2, .inl (c2, 32, .inl (fun _ => 0))), (q3, .inl (c3, 32, .inl (fun _ => 0))), (q4, .inl (c4, 32, .inl (fun _ => 0))), (q5, .inl (c5, 32, .inl (fun _ => 0))), (q6, .inl (c6, 256, .inl (fun _ => 0))), (q7, .inl (c7, 256, .inl (fun _ => 0))), (q8, .inl (c8, 256, .inl (fun _ => 0))), (q9, .inl (c9, 8, .inl (fun _ => 0))), (q10, .inl (c10, 8, .inl (fun _ => 0))), (q11, .inl (c11, 10, .inl (fun _ => 0))), (q12, .inl (c12, 10, .inl (fun _ => 0))), (q13, .inl (c13, 10, .inl (fun _ => 0))), (q14, .inl (c14, 10, .inl (fun _ => 0))), (q15, .inl (c15, 10, .inl (fun _ => 0))), (q16, .inl (c16, 24, .inl (fun _ => 0))), (q17, .inl (c17, 24, .inl (fun _ => 0))), (q18, .inl (c18, 24, .inl (fun _ => 0)))] := ⟨X.1, hP, hD, hS, X.2.2.2.2⟩
  refine lv_aload_n hx hb zd_Mo_init_151 rfl (lv_at hl 0 rfl) ?_
  refine lv_bipush (v := 24) hx hb zd_Mo_init_152 (by decide) ?_
  refine zr_newa (atype := .int) (ty := .int) (N' := 24) (a0 := (24, .inl (fun _ => 0))) rfl hx hb hts zo_aI X (fun cA => rfl) (by decide) (by decide) (by decide) ⟨Nat.le_of_ble_eq_true rfl, Nat.le_of_ble_eq_true rfl⟩ zd_Mo_init_154 (fun q19 c19 H X => ?_)
  have X : zz_X D vwCl [(c1, .int), (c2, .int), (c3, .int), (c4, .int), (c5, .int), (c6, .int), (c7, .int), (c8, .int), (c9, .int), (c10, .int), (c11, .int), (c12, .int), (c13, .int), (c14, .int), (c15, .int), (c16, .int), (c17, .int), (c18, .int), (c19, .int)] A s H _ [(h0, .inr (9, [.ref q1, .ref q2, .ref q3, .ref q4, .ref q5, .ref q6, .ref q7, .ref q8, .ref q9, .ref q10, .ref q11, .ref q12, .ref q13, .ref q14, .ref q15, .ref q16, .ref q17, .ref q18, .null, .null, .int 0, .int 0, .int 0, .int 0, .int 0, .int 0, .int 0, .int 0, .int 0])), (q1, .inl (c1, 32, .inl (fun _ => 0))), (q2, .inl (c2, 32, .inl (fun _ => 0))), (q3, .inl (c3, 32, .inl (fun _ => 0))), (q4, .inl (c4, 32, .inl (fun _ => 0))), (q5, .inl (c5, 32, .inl (fun _ => 0))), (q6, .inl (c6, 256, .inl (fun _ => 0))), (q7, .inl (c7, 256, .inl (fun _ => 0))), (q8, .inl (c8, 256, .inl (fun _ => 0))), (q9, .inl (c9, 8, .inl (fun _ => 0))), (q10, .inl (c10, 8, .inl (fun _ => 0))), (q11, .inl (c11, 10, .inl (fun _ => 0))), (q12, .inl (c12, 10, .inl (fun _ => 0))), (q13, .inl (c13, 10, .inl (fun _ => 0))), (q14, .inl (c14, 10, .inl (fun _ => 0))), (q15, .inl (c15, 10, .inl (fun _ => 0))), (q16, .inl (c16, 24, .inl (fun _ => 0))), (q17, .inl (c17, 24, .inl (fun _ => 0))), (q18, .inl (c18, 24, .inl (fun _ => 0))), (q19, .inl (c19, 24, .inl (fun _ => 0)))] := X
  refine va_putF (D := D) (ci := 9) (v := .ref q19) (ty := (.array .int)) (C := zR_Mo) (T := zT_Mo) (N := 29) hx hb hts zi_Mo zt_Mo zo_Mo zn_Mo hown X.1 X.2.1 X.2.2.1 X.2.2.2.1 0 rfl rfl 18 (by decide) (hts _ zif_Mo_init_64) (fun _ h9 => h9) rfl hin rfl (by decide +kernel) rfl rfl (Nat.le_of_ble_eq_true rfl) zd_Mo_init_156 (fun H locs hP hD hS => ?_)
  have X : zz_X D vwCl [(c1, .int), (c2, .int), (c3, .int), (c4, .int), (c5, .int), (c6, .int), (c7, .int), (c8, .int), (c9, .int), (c10, .int), (c11, .int), (c12, .int), (c13, .int), (c14, .int), (c15, .int), (c16, .int), (c17, .int), (c18, .int), (c19, .int)] A s H locs [(h0, .inr (9, [.ref q1, .ref q2, .ref q3, .ref q4, .ref q5, .ref q6, .ref q7, .ref q8, .ref q9, .ref q10, .ref q11, .ref q12, .ref q13, .ref q14, .ref q15, .ref q16, .ref q17, .ref q18, .ref q19, .null, .int 0, .int 0, .int 0, .int 0, .int 0, .int 0, .int 0, .int 0, .int 0])), (q1, .inl (c1, 32, .inl (fun _ => 0))), (q2, .inl (c2, 32, .inl (fun _ => 0))), (q3, .inl (c3, 32, .inl (fun _ => 0))), (q4, .inl (c4, 32, .inl (fun _ => 0))), (q5, .inl (c5, 32, .inl (fun _ => 0))), (q6, .inl (c6, 256, .inl (fun _ => 0))), (q7, .inl (c7, 256, .inl (fun _ => 0))), (q8, .inl (c8, 256, .inl (fun _ => 0))), (q9, .inl (c9, 8, .inl (fun _ => 0))), (q10, .inl (c10, 8, .inl (fun _ => 0))), (q11, .inl (c11, 10, .inl (fun _ => 0))), (q12, .inl (c12, 10, .inl (fun _ => 0))), (q13, .inl (c13, 10, .inl (fun _ => 0))), (q14, .inl (c14, 10, .inl (fun _ => 0))), (q15, .inl (c15, 10, .inl (fun _ => 0))), (q16, .inl (c16, 24, .inl (fun _ => 0))), (q17, .inl (c17, 24, .inl (fun _ => 0))), (q18, .inl (c18, 24, .inl (fun _ => 0))), (q19, .inl (c19, 24, .inl (fun _ => 0)))] := ⟨X.1, hP, hD, hS, X.2.2.2.2⟩
  refine lv_aload_n hx hb zd_Mo_init_159 rfl (lv_at hl 0 rfl) ?_
  refine lv_bipush (v := 32) hx hb zd_Mo_init_160 (by decide) ?_
  refine zr_newa (atype := .boolean) (ty := .boolean) (N' := 32) (a0 := (32, .inl (fun _ => 0))) rfl hx hb hts zo_aZ X (fun cA => rfl) (by decide) (by decide) (by decide) ⟨Nat.le_of_ble_eq_true rfl, Nat.le_of_ble_eq_true rfl⟩ zd_Mo_init_162 (fun q20 c20 H X => ?_)
  have X : zz_X D vwCl [(c1, .int), (c2, .int), (c3, .int), (c4, .int), (c5, .int), (c6, .int), (c7, .int), (c8, .int), (c9, .int), (c10, .int), (c11, .int), (c12, .int), (c13, .int), (c14, .int), (c15, .int), (c16, .int), (c17, .int), (c18, .int), (c19, .int), (c20, .boolean)] A s H _ [(h0, .inr (9, [.ref q1, .ref q2, .ref q3, .ref q4, .ref q5, .ref q6, .ref q7, .ref q8, .ref q9, .ref q10, .ref q11, .ref q12, .ref q13, .ref q14, .ref q15, .ref q16, .ref q17, .ref q18, .ref q19, .null, .int 0, .int 0, .int 0, .int 0, .int 0, .int 0, .int 0, .int 0, .int 0])), (q1, .inl (c1, 32, .inl (fun _ => 0))), (q2, .inl (c2, 32, .inl (fun _ => 0))), (q3, .inl (c3, 32, .inl (fun _ => 0))), (q4, .inl (c4, 32, .inl (fun _ => 0))), (q5, .inl (c5, 32, .inl (fun _ => 0))), (q6, .inl (c6, 256, .inl (fun _ => 0))), (q7, .inl (c7, 256, .inl (fun _ => 0))), (q8, .inl (c8, 256, .inl (fun _ => 0))), (q9, .inl (c9, 8, .inl (fun _ => 0))), (q10, .inl (c10, 8, .inl (fun _ => 0))), (q11, .inl (c11, 10, .inl (fun _ => 0))), (q12, .inl (c12, 10, .inl (fun _ => 0))), (q13, .inl (c13, 10, .inl (fun _ => 0))), (q14, .inl (c14, 10, .inl (fun _ => 0))), (q15, .inl (c15, 10, .inl (fun _ => 0))), (q16, .inl (c16, 24, .inl (fun _ => 0))), (q17, .inl (c17, 24, .inl (fun _ => 0))), (q18, .inl (c18, 24, .inl (fun _ => 0))), (q19, .inl (c19, 24, .inl (fun _ => 0))), (q20, .inl (c20, 32, .inl (fun _ => 0)))] := X
  refine va_putF (D := D) (ci := 9) (v := .ref q20) (ty := (.array .boolean)) (C := zR_Mo) (T := zT_Mo) (N := 29) hx hb hts zi_Mo zt_Mo zo_Mo zn_Mo hown X.1 X.2.1 X.2.2.1 X.2.2.2.1 0 rfl rfl 19 (by decide) (hts _ zif_Mo_init_67) (fun _ h9 => h9) rfl hin rfl (by decide +kernel) rfl rfl (Nat.le_of_ble_eq_true rfl) zd_Mo_init_164 (fun H locs hP hD hS => ?_)
  have X : zz_X D vwCl [(c1, .int), (c2, .int), (c3, .int), (c4, .int), (c5, .int), (c6, .int), (c7, .int), (c8, .int), (c9, .int), (c10, .int), (c11, .int), (c12, .int), (c13, .int), (c14, .int), (c15, .int), (c16, .int), (c17, .int), (c18, .int), (c19, .int), (c20, .boolean)] A s H locs [(h0, .inr (9, [.ref q1, .ref q2, .ref q3, .ref q4, .ref q5, .ref q6, .ref q7, .ref q8, .ref q9, .ref q10, .ref q11, .ref q12, .ref q13, .ref q14, .ref q15, .ref q16, .ref q17, .ref q18, .ref q19, .ref q20, .int 0, .int 0, .int 0, .int 0, .int 0, .int 0, .int 0, .int 0, .int 0])), (q1, .inl (c1, 32, .inl (fun _ => 0))), (q2, .inl (c2, 32, .inl (fun _ => 0))), (q3, .inl (c3, 32, .inl (fun _ => 0))), (q4, .inl (c4, 32, .inl (fun _ => 0))), (q5, .inl (c5, 32, .inl (fun _ => 0))), (q6, .inl (c6, 256, .inl (fun _ => 0))), (q7, .inl (c7, 256, .inl (fun _ => 0))), (q8, .inl (c8, 256, .inl (fun _ => 0))), (q9, .inl (c9, 8, .inl (fun _ => 0))), (q10, .inl (c10, 8, .inl (fun _ => 0))), (q11, .inl (c11, 10, .inl (fun _ => 0))), (q12, .inl (c12, 10, .inl (fun _ => 0))), (q13, .inl (c13, 10, .inl (fun _ => 0))), (q14, .inl (c14, 10, .inl (fun _ => 0))), (q15, .inl (c15, 10, .inl (fun _ => 0))), (q16, .inl (c16, 24, .inl (fun _ => 0))), (q17, .inl (c17, 24, .inl (fun _ => 0))), (q18, .inl (c18, 24, .inl (fun _ => 0))), (q19, .inl (c19, 24, .inl (fun _ => 0))), (q20, .inl (c20, 32, .inl (fun _ => 0)))] := ⟨X.1, hP, hD, hS, X.2.2.2.2⟩
  refine lv_aload_n hx hb zd_Mo_init_167 rfl (lv_at hl 0 rfl) ?_
  refine lv_iconst (v := 1) hx hb zd_Mo_init_168 (by decide) ?_
  refine va_put (D := D) (ci := 9) (v := .int 1) (ty := .boolean) (C := zR_Mo) (T := zT_Mo) (N := 29) hx hb hts zi_Mo zt_Mo zo_Mo zn_Mo hown X.1 X.2.1 X.2.2.1 X.2.2.2.1 0 rfl rfl 28 (by decide) (hts _ zif_Mo_init_71) (fun _ h9 => h9) rfl (by decide +kernel) rfl rfl (Nat.le_of_ble_eq_true rfl) zd_Mo_init_169 (fun H locs hP hD hS => ?_)
  have X : zz_X D vwCl [(c1, .int), (c2, .int), (c3, .int), (c4, .int), (c5, .int), (c6, .int), (c7, .int), (c8, .int), (c9, .int), (c10, .int), (c11, .int), (c12, .int), (c13, .int), (c14, .int), (c15, .int), (c16, .int), (c17, .int), (c18, .int), (c19, .int), (c20, .boolean)] A s H locs [(h0, .inr (9, [.ref q1, .ref q2, .ref q3, .ref q4, .ref q5, .ref q6, .ref q7, .ref q8, .ref q9, .ref q10, .ref q11, .ref q12, .ref q13, .ref q14, .ref q15, .ref q16, .ref q17, .ref q18, .ref q19, .ref q20, .int 0, .int 0, .int 0, .int 0, .int 0, .int 0, .int 0, .int 0, .int 1])), (q1, .inl (c1, 32, .inl (fun _ => 0))), (q2, .inl (c2, 32, .inl (fun _ => 0))), (q3, .inl (c3, 32, .inl (fun _ => 0))), (q4, .inl (c4, 32, .inl (fun _ => 0))), (q5, .inl (c5, 32, .inl (fun _ => 0))), (q6, .inl (c6, 256, .inl (fun _ => 0))), (q7, .inl (c7, 256, .inl (fun _ => 0))), (q8, .inl (c8, 256, .inl (fun _ => 0))), (q9, .inl (c9, 8, .inl (fun _ => 0))), (q10, .inl (c10, 8, .inl (fun _ => 0))), (q11, .inl (c11, 10, .inl (fun _ => 0))), (q12, .inl (c12, 10, .inl (fun _ => 0))), (q13, .inl (c13, 10, .inl (fun _ => 0))), (q14, .inl (c14, 10, .inl (fun _ => 0))), (q15, .inl (c15, 10, .inl (fun _ => 0))), (q16, .inl (c16, 24, .inl (fun _ => 0))), (q17, .inl (c17, 24, .inl (fun _ => 0))), (q18, .inl (c18, 24, .inl (fun _ => 0))), (q19, .inl (c19, 24, .inl (fun _ => 0))), (q20, .inl (c20, 32, .inl (fun _ => 0)))] := ⟨X.1, hP, hD, hS, X.2.2.2.2⟩
  have e1 : c1 = c2 := zc_uI X.1 0 1 rfl rfl
  have e2 : c1 = c3 := zc_uI X.1 0 2 rfl rfl
  have e3 : c1 = c4 := zc_uI X.1 0 3 rfl rfl
  have e4 : c1 = c5 := zc_uI X.1 0 4 rfl rfl
  have e5 : c1 = c6 := zc_uI X.1 0 5 rfl rfl
  have e6 : c1 = c7 := zc_uI X.1 0 6 rfl rfl
  have e7 : c1 = c8 := zc_uI X.1 0 7 rfl rfl
  have e8 : c1 = c9 := zc_uI X.1 0 8 rfl rfl
  have e9 : c1 = c10 := zc_uI X.1 0 9 rfl rfl
  have e10 : c1 = c11 := zc_uI X.1 0 10 rfl rfl
  have e11 : c1 = c12 := zc_uI X.1 0 11 rfl rfl
  have e12 : c1 = c13 := zc_uI X.1 0 12 rfl rfl
  have e13 : c1 = c14 := zc_uI X.1 0 13 rfl rfl
  have e14 : c1 = c15 := zc_uI X.1 0 14 rfl rfl
  have e15 : c1 = c16 := zc_uI X.1 0 15 rfl rfl
  have e16 : c1 = c17 := zc_uI X.1 0 16 rfl rfl
  have e17 : c1 = c18 := zc_uI X.1 0 17 rfl rfl
  have e18 : c1 = c19 := zc_uI X.1 0 18 rfl rfl
  subst e1
  subst e2
  subst e3
  subst e4
  subst e5
  subst e6
  subst e7
  subst e8
  subst e9
  subst e10
  subst e11
  subst e12
  subst e13
  subst e14
  subst e15
  subst e16
  subst e17
  subst e18
  have X : zz_X D vwCl (zz_tys c1 c20) A s H locs (wM (fun k => match k with | 0 => h0 | 1 => q1 | 2 => q2 | 3 => q3 | 4 => q4 | 5 => q5 | 6 => q6 | 7 => q7 | 8 => q8 | 9 => q9 | 10 => q10 | 11 => q11 | 12 => q12 | 13 => q13 | 14 => q14 | 15 => q15 | 16 => q16 | 17 => q17 | 18 => q18 | 19 => q19 | _ => q20) c1 c20 (zz_put (fun _ _ => 0) 28 0 1)) := ⟨X.1.sub [0, 19] rfl, X.2⟩
  refine zw_Mo_init_b172 (q := (fun k => match k with | 0 => h0 | 1 => q1 | 2 => q2 | 3 => q3 | 4 => q4 | 5 => q5 | 6 => q6 | 7 => q7 | 8 => q8 | 9 => q9 | 10 => q10 | 11 => q11 | 12 => q12 | 13 => q13 | 14 => q14 | 15 => q15 | 16 => q16 | 17 => q17 | 18 => q18 | 19 => q19 | _ => q20)) (cI := c1) (cZ := c20) (out := out) hx hb hown hts (fun H locs ls X hl => ?_) (zz_put (fun _ _ => 0) 28 0 1) _ _ _ X (lv_sub hl [0] rfl) hf
  exact zr_cret hx hb hr hlocks ((fun k => match k with | 0 => q1 | 1 => q2 | 2 => q3 | 3 => q4 | 4 => q5 | 5 => q6 | 6 => q7 | 7 => q8 | 8 => q9 | 9 => q10 | 10 => q11 | 11 => q12 | 12 => q13 | 13 => q14 | 14 => q15 | 15 => q16 | 16 => q17 | 17 => q18 | 18 => q19 | _ => q20), c1, c20, out) rfl X rfl [0, 1] rfl ⟨Nat.le_of_ble_eq_true rfl, Nat.le_of_ble_eq_true rfl⟩ zd_Mo_init_250

