/-! a system's state: the numbers of its fields and arrays, by a number for each (a field is an array of one) -/
abbrev St : Type := Nat → Nat → Int32
def zz_put (σ : St) (v i : Nat) (x : Int32) : St := fun w => if w = v then upd (σ v) i x else σ w
/-- an index is in range; else the function has no value -/
def zz_ck {α : Type} (i : Int32) (n : Nat) (r : Option α) : Option α := if i < 0 ∨ n ≤ i.toNatClampNeg then none else r
theorem zz_ck_some {α : Type} {i : Int32} {n : Nat} {r : Option α} {o : α} (h : zz_ck i n r = some o) : vp_in i n ∧ r = some o := by
  unfold zz_ck at h
  by_cases g : i < 0 ∨ n ≤ i.toNatClampNeg
  · rw [if_pos g] at h; cases h
  · rw [if_neg g] at h; exact ⟨g, h⟩
/-- a divisor isn't 0 -/
def zz_kn {α : Type} (y : Int32) (r : Option α) : Option α := if y = 0 then none else r
theorem zz_kn_some {α : Type} {y : Int32} {r : Option α} {o : α} (h : zz_kn y r = some o) : ¬ y = 0 ∧ r = some o := by
  unfold zz_kn at h
  by_cases g : y = 0
  · rw [if_pos g] at h; cases h
  · rw [if_neg g] at h; exact ⟨g, h⟩
/-- a boolean is 0 or 1 -/
def zz_kz {α : Type} (v : Int32) (r : Option α) : Option α := if v = 0 ∨ v = 1 then r else none
theorem zz_kz_some {α : Type} {v : Int32} {r : Option α} {o : α} (h : zz_kz v r = some o) : (v = 0 ∨ v = 1) ∧ r = some o := by
  unfold zz_kz at h
  by_cases g : v = 0 ∨ v = 1
  · rw [if_pos g] at h; exact ⟨g, h⟩
  · rw [if_neg g] at h; cases h
theorem zz_out {x : Int32} {lo hi : Int} (h : ∀ k : Int, lo ≤ k → k ≤ hi → ¬ x = Int32.ofInt k) : x.toInt < lo ∨ hi < x.toInt := by
  by_cases h1 : x.toInt < lo
  · exact Or.inl h1
  · by_cases h2 : hi < x.toInt
    · exact Or.inr h2
    · exact absurd (Int32.ofInt_toInt x).symm (h x.toInt (by omega) (by omega))
theorem zz_lk1 {x k1 : Int32} {a1 o1 d : Int} (h1 : ¬ x = k1) (e1 : k1.toInt = a1) : Op.lookupswitch.offset [(a1, o1)] d x.toInt = d := by
  rw [lv_osw h1 e1]; rfl
theorem zz_lk2 {x k1 k2 : Int32} {a1 o1 a2 o2 d : Int} (h1 : ¬ x = k1) (e1 : k1.toInt = a1) (h2 : ¬ x = k2) (e2 : k2.toInt = a2) : Op.lookupswitch.offset [(a1, o1), (a2, o2)] d x.toInt = d := by
  rw [lv_osw h1 e1, lv_osw h2 e2]; rfl
theorem zz_lk3 {x k1 k2 k3 : Int32} {a1 o1 a2 o2 a3 o3 d : Int} (h1 : ¬ x = k1) (e1 : k1.toInt = a1) (h2 : ¬ x = k2) (e2 : k2.toInt = a2) (h3 : ¬ x = k3) (e3 : k3.toInt = a3) : Op.lookupswitch.offset [(a1, o1), (a2, o2), (a3, o3)] d x.toInt = d := by
  rw [lv_osw h1 e1, lv_osw h2 e2, lv_osw h3 e3]; rfl
abbrev zz_tys (cI cZ : ClassId) : List (ClassId × FieldType) := [(cI, .int), (cZ, .boolean)]
/-- the world of a walk: its classes, its cells, that they are apart, what has changed, that new cells are its own -/
def zz_X (D : va_G) (cl : List vw_C) (tys : List (ClassId × FieldType)) (A : Nat → Prop) (s : State) (H : Heap) (locs : List Loc) (ws : va_W) : Prop :=
  va_K D cl tys s ∧ va_P D cl ws H ∧ va_D A ws ∧ va_S A s.heap H locs ∧ ∀ q : Nat, s.heap.size ≤ q → A q
theorem zz_X.fr {D : va_G} {cl : List vw_C} {tys : List (ClassId × FieldType)} {A : Nat → Prop} {s : State} {H : Heap} {locs : List Loc} {ws : va_W} (X : zz_X D cl tys A s H locs ws) : ∀ q, va_A ws H.size q → A q := by
  intro q h
  rcases h with ⟨k, e, h⟩ | h
  · exact X.2.2.1.2 k (q, e) h
  · exact X.2.2.2.2 q (Nat.le_trans X.2.2.2.1.1 h)
/-- what a method with an int for answer leaves -/
def zq_I (D : va_G) (cl : List vw_C) (tys : List (ClassId × FieldType)) (w : St → va_W) (A : Nat → Prop) (out : Int32 × St) : Array Value → State → Outcome → State → Prop :=
  va_Qi (fun (r : Int32) (u : St) => r = out.1 ∧ u = out.2) (fun u t => va_P D cl (w u) t.heap ∧ va_K D cl tys t ∧ va_D A (w u)) A
def zq_V (D : va_G) (cl : List vw_C) (tys : List (ClassId × FieldType)) (w : St → va_W) (A : Nat → Prop) (out : St) : Array Value → State → Outcome → State → Prop :=
  va_Qv (fun (u : St) => u = out) (fun u t => va_P D cl (w u) t.heap ∧ va_K D cl tys t ∧ va_D A (w u)) A
def zz_pre (D : va_G) (cl : List vw_C) (tys : List (ClassId × FieldType)) (ws : va_W) (as : List Value) (sz : Nat) : Array Value → State → Prop :=
  va_Pc as (fun U => U.heap.size = sz ∧ va_P D cl ws U.heap ∧ va_K D cl tys U ∧ va_D (fun _ => True) ws)
/-- the contracts: from the world of σ, with these arguments, the answer and the new state are 'out' -/
def zI (l : Launch) (D : va_G) (cl : List vw_C) (tys : List (ClassId × FieldType)) (w : St → va_W) (y : MethodName) (ws : List Cond) (rm : Room) (as : List Value) (σ : St) (out : Int32 × St) : Prop :=
  ∀ sz : Nat, Met l y ws rm (zz_pre D cl tys (w σ) as sz) (zq_I D cl tys w (va_A (w σ) sz) out) 0 0 (va_A (w σ) sz)
def zV (l : Launch) (D : va_G) (cl : List vw_C) (tys : List (ClassId × FieldType)) (w : St → va_W) (y : MethodName) (ws : List Cond) (rm : Room) (as : List Value) (σ : St) (out : St) : Prop :=
  ∀ sz : Nat, Met l y ws rm (zz_pre D cl tys (w σ) as sz) (zq_V D cl tys w (va_A (w σ) sz) out) 0 0 (va_A (w σ) sz)
theorem zz_blind {D : va_G} {cl : List vw_C} {tys : List (ClassId × FieldType)} {ws : va_W} {as : List Value} {sz : Nat} : FrameBlind (zz_pre D cl tys ws as sz) := by
  intro a U g mk q
  obtain ⟨q0, q1, qP, qK, qD⟩ := q
  exact ⟨q0, q1, qP, va_K.moved (u := U) (U := U.calling g mk a) (Vm.Alike.refl U.vm) qK, qD⟩
section ZR
variable {p : Program} {l : Launch} {e : Env} {R : Room} {s : State} {m : MethodId} {args : Array Value} {below : List Frame} {meth : Method} {c : Code} {H : Heap} {locs : List Loc} {Q : State → Prop}
variable {cc : ByteArray} {pc : Nat} {ls : Array Slot} {rest : List Value} {D : va_G} {A : Nat → Prop} {cl : List vw_C} {tys : List (ClassId × FieldType)} {w : St → va_W} {σ : St}
theorem zr_iret (hx : p.tables.exec = Jvm.exec) (hb : c.code = cc) (hr : meth.sig.returnType = some .int) (hlocks : meth.locks = false) (X : zz_X D cl tys A s H locs (w σ)) {v : Int32} {out : Int32 × St} (ho : (v, σ) = out) (hdg : decode cc pc = .ok (.ireturn, 1)) :
    W p l e R s m args below meth c H locs 0 0 (MQ below (zq_I D cl tys w A out) args s 0 0 A) (F0 m pc ls [.int v]) := by
  subst ho
  exact W.iret (v := v) hx hb hr (fun t ht hW => ⟨⟨v, σ, rfl, ⟨rfl, rfl⟩, by rw [ht]; exact X.2.1, va_K.moved hW.alike X.1, X.2.2.1⟩, X.2.2.2.1.F ht⟩) X.2.2.2.1.2.2 hdg
theorem zr_iretP (hx : p.tables.exec = Jvm.exec) (hb : c.code = cc) (hr : meth.sig.returnType = some .int) (hlocks : meth.locks = false) (X : zz_X D cl tys A s H locs (w σ)) {v out : Int32} (ho : v = out) (hdg : decode cc pc = .ok (.ireturn, 1)) :
    W p l e R s m args below meth c H locs 0 0 (MQ below (zq_I D cl tys w A (out, σ)) args s 0 0 A) (F0 m pc ls [.int v]) := zr_iret hx hb hr hlocks X (by rw [ho]) hdg
theorem zr_zret (hx : p.tables.exec = Jvm.exec) (hb : c.code = cc) (hr : meth.sig.returnType = some .boolean) (hlocks : meth.locks = false) (X : zz_X D cl tys A s H locs (w σ)) {v : Int32} (hz : v = 0 ∨ v = 1) {out : Int32 × St} (ho : (v, σ) = out) (hdg : decode cc pc = .ok (.ireturn, 1)) :
    W p l e R s m args below meth c H locs 0 0 (MQ below (zq_I D cl tys w A out) args s 0 0 A) (F0 m pc ls [.int v]) := by
  subst ho
  exact W.zret (v := v) hx hb hr (by rcases hz with rfl | rfl <;> rfl) (fun t ht hW => ⟨⟨v, σ, rfl, ⟨rfl, rfl⟩, by rw [ht]; exact X.2.1, va_K.moved hW.alike X.1, X.2.2.1⟩, X.2.2.2.1.F ht⟩) X.2.2.2.1.2.2 hdg
theorem zr_zretP (hx : p.tables.exec = Jvm.exec) (hb : c.code = cc) (hr : meth.sig.returnType = some .boolean) (hlocks : meth.locks = false) (X : zz_X D cl tys A s H locs (w σ)) {v : Int32} (hz : v = 0 ∨ v = 1) {out : Int32} (ho : v = out) (hdg : decode cc pc = .ok (.ireturn, 1)) :
    W p l e R s m args below meth c H locs 0 0 (MQ below (zq_I D cl tys w A (out, σ)) args s 0 0 A) (F0 m pc ls [.int v]) := zr_zret hx hb hr hlocks X hz (by rw [ho]) hdg
theorem zr_vret (hx : p.tables.exec = Jvm.exec) (hb : c.code = cc) (hr : meth.sig.returnType = none) (hlocks : meth.locks = false) (X : zz_X D cl tys A s H locs (w σ)) {out : St} (ho : σ = out) (hdg : decode cc pc = .ok (.return_, 1)) :
    W p l e R s m args below meth c H locs 0 0 (MQ below (zq_V D cl tys w A out) args s 0 0 A) (F0 m pc ls []) := by
  subst ho
  exact W.vret hx hb hr (fun t ht hW => ⟨⟨σ, rfl, rfl, by rw [ht]; exact X.2.1, va_K.moved hW.alike X.1, X.2.2.1⟩, X.2.2.2.1.F ht⟩) X.2.2.2.1.2.2 hdg
theorem zI_of {y : MethodName} {maxL : Nat} {ret : Option FieldType} {rm : Room} {as : List Value} {out : Int32 × St} (hy : plainName y.cls = true) (hn : (lg_sl as).length ≤ maxL)
    (body : ∀ (p : Program) (e : Env) (s : State) (m : MethodId) (below : List Frame) (meth : Method) (c : Code) (A : Nat → Prop) (ls : Array Slot), p.tables.exec = Jvm.exec → c.code = cc → c.maxLocals = maxL → s.vm.findClass y.cls = some m.cls → (∀ w ∈ zz_WS, w.before as.toArray s = true) → meth.sig.returnType = ret → meth.locks = false →
      zz_X D cl tys A s s.heap [] (w σ) → lv_has ls maxL (lv_args 0 as) → W p l e rm s m as.toArray below meth c s.heap [] 0 0 (MQ below (zq_I D cl tys w A out) as.toArray s 0 0 A) (F0 m 0 ls [])) : zI l D cl tys w y (.code y cc maxL ret :: zz_WS) rm as σ out := by
  intro sz
  refine Met.ofW (cc := cc) (maxL := maxL) (ret := ret) hy rfl ?_
  intro p e s m args below meth c s₁ B hml hv
  obtain ⟨rfl, hsz, hP, hK, hD0⟩ := hv
  have hts := atoms_spec (ws := .code y cc maxL ret :: zz_WS) B.pre
  subst hsz
  have hl := lv_entry as (n := maxL) hn
  rw [lg_entry_eq]
  exact body p e s m below meth c _ _ B.exec B.bytes hml (findClass_of_methodNamed B.named) (fun w hw => hts w (List.mem_cons_of_mem _ hw)) B.returns B.notSynchronized ⟨hK, hP, hD0.self, va_S.rf, fun q h => Or.inr h⟩ hl
theorem zI_ofF {y : MethodName} {maxL : Nat} {ret : Option FieldType} {rm : Room} {as : List Value} {out : Int32 × St} (hy : plainFor y = true) (hn : (lg_sl as).length ≤ maxL)
    (body : ∀ (p : Program) (e : Env) (s : State) (m : MethodId) (below : List Frame) (meth : Method) (c : Code) (A : Nat → Prop) (ls : Array Slot), p.tables.exec = Jvm.exec → c.code = cc → c.maxLocals = maxL → s.vm.findClass y.cls = some m.cls → (∀ w ∈ zz_WS, w.before as.toArray s = true) → meth.sig.returnType = ret → meth.locks = false →
      zz_X D cl tys A s s.heap [] (w σ) → lv_has ls maxL (lv_args 0 as) → W p l e rm s m as.toArray below meth c s.heap [] 0 0 (MQ below (zq_I D cl tys w A out) as.toArray s 0 0 A) (F0 m 0 ls [])) : zI l D cl tys w y (.code y cc maxL ret :: zz_WS) rm as σ out := by
  intro sz
  refine va_MetF (cc := cc) (maxL := maxL) (ret := ret) hy rfl ?_
  intro p e s m args below meth c s₁ B hml hv
  obtain ⟨rfl, hsz, hP, hK, hD0⟩ := hv
  have hts := atoms_spec (ws := .code y cc maxL ret :: zz_WS) B.pre
  subst hsz
  have hl := lv_entry as (n := maxL) hn
  rw [lg_entry_eq]
  exact body p e s m below meth c _ _ B.exec B.bytes hml (findClass_of_methodNamed B.named) (fun w hw => hts w (List.mem_cons_of_mem _ hw)) B.returns B.notSynchronized ⟨hK, hP, hD0.self, va_S.rf, fun q h => Or.inr h⟩ hl
theorem zV_of {y : MethodName} {maxL : Nat} {ret : Option FieldType} {rm : Room} {as : List Value} {out : St} (hy : plainName y.cls = true) (hn : (lg_sl as).length ≤ maxL)
    (body : ∀ (p : Program) (e : Env) (s : State) (m : MethodId) (below : List Frame) (meth : Method) (c : Code) (A : Nat → Prop) (ls : Array Slot), p.tables.exec = Jvm.exec → c.code = cc → c.maxLocals = maxL → s.vm.findClass y.cls = some m.cls → (∀ w ∈ zz_WS, w.before as.toArray s = true) → meth.sig.returnType = ret → meth.locks = false →
      zz_X D cl tys A s s.heap [] (w σ) → lv_has ls maxL (lv_args 0 as) → W p l e rm s m as.toArray below meth c s.heap [] 0 0 (MQ below (zq_V D cl tys w A out) as.toArray s 0 0 A) (F0 m 0 ls [])) : zV l D cl tys w y (.code y cc maxL ret :: zz_WS) rm as σ out := by
  intro sz
  refine Met.ofW (cc := cc) (maxL := maxL) (ret := ret) hy rfl ?_
  intro p e s m args below meth c s₁ B hml hv
  obtain ⟨rfl, hsz, hP, hK, hD0⟩ := hv
  have hts := atoms_spec (ws := .code y cc maxL ret :: zz_WS) B.pre
  subst hsz
  have hl := lv_entry as (n := maxL) hn
  rw [lg_entry_eq]
  exact body p e s m below meth c _ _ B.exec B.bytes hml (findClass_of_methodNamed B.named) (fun w hw => hts w (List.mem_cons_of_mem _ hw)) B.returns B.notSynchronized ⟨hK, hP, hD0.self, va_S.rf, fun q h => Or.inr h⟩ hl
/-- what is the same at every call of y: an instance method -/
def zz_kv (y : MethodName) (bytes : ByteArray) (maxL : Nat) (ret : Option FieldType) (n : Nat) : Prop :=
  Cond.instanceMethod y ∈ zz_WS ∧ Cond.selects y.cls y y ∈ zz_WS ∧ Cond.initialized y.cls ∈ zz_WS ∧ Cond.code y bytes maxL ret ∈ zz_WS ∧ y.cls ≠ "java/lang/invoke/MethodHandle" ∧ y.cls ≠ "java/lang/invoke/VarHandle" ∧ (parseMethodDescriptor y.desc).map (fun d => d.parameters.length) = some n
def zz_ks (y : MethodName) (bytes : ByteArray) (maxL : Nat) (ret : Option FieldType) (n : Nat) : Prop :=
  Cond.static y ∈ zz_WS ∧ Cond.initialized y.cls ∈ zz_WS ∧ Cond.code y bytes maxL ret ∈ zz_WS ∧ y.cls ≠ "java/lang/invoke/MethodHandle" ∧ y.cls ≠ "java/lang/invoke/VarHandle" ∧ (parseMethodDescriptor y.desc).map (fun d => d.parameters.length) = some n
theorem zz_gv {own : String} {index : Nat} {y : MethodName} {bytes : ByteArray} {maxL n : Nat} {ret : Option FieldType} (k : zz_kv y bytes maxL ret n) (hl : Cond.methodLink own index y ∈ zz_WS) : GoodIn zz_WS (wsV own index y.cls y (.code y bytes maxL ret :: zz_WS)) := by
  intro w hw
  have h : w ∈ zz_WS := by
    unfold wsV at hw
    rcases List.mem_append.mp hw with h | h
    · simp only [List.mem_cons, List.not_mem_nil, or_false] at h
      rcases h with rfl | rfl | rfl | rfl
      · exact hl
      · exact k.1
      · exact k.2.1
      · exact k.2.2.1
    · rcases List.mem_cons.mp h with rfl | h
      · exact k.2.2.2.1
      · exact h
  exact ⟨h, zz_good w h⟩
theorem zz_gs {own : String} {index : Nat} {y : MethodName} {bytes : ByteArray} {maxL n : Nat} {ret : Option FieldType} (k : zz_ks y bytes maxL ret n) (hl : Cond.methodLink own index y ∈ zz_WS) : GoodIn zz_WS (va_wsS own index y (.code y bytes maxL ret :: zz_WS)) := by
  intro w hw
  have h : w ∈ zz_WS := by
    unfold va_wsS at hw
    rcases List.mem_append.mp hw with h | h
    · simp only [List.mem_cons, List.not_mem_nil, or_false] at h
      rcases h with rfl | rfl | rfl
      · exact hl
      · exact k.1
      · exact k.2.1
    · rcases List.mem_cons.mp h with rfl | h
      · exact k.2.2.1
      · exact h
  exact ⟨h, zz_good w h⟩
section ZC
variable {own : String} {index nL maxL n q0 ci N : Nat} {y : MethodName} {bytes : ByteArray} {ret : Option FieldType} {rm : Room} {b : Addr} {As : List Value} {st : List Value} {T : u_T} {fs : List Value}
theorem zr_cvI {out : Int32 × St} (hx : p.tables.exec = Jvm.exec) (hb : c.code = cc) (hml : c.maxLocals = nL) (hown : s.vm.findClass own = some m.cls) (hts : ∀ w ∈ zz_WS, w.before args s = true) (hsz : ls.size = nL) (X : zz_X D cl tys A s H locs (w σ))
    (hM : zI l D cl tys w y (.code y bytes maxL ret :: zz_WS) rm (.ref b :: As) σ out) (k : zz_kv y bytes maxL ret n) (hl : Cond.methodLink own index y ∈ zz_WS) (hn : As.length = n) (hst : st = As.reverse ++ .ref b :: rest) (hW : (rest.map fun v => v.category).sum ≤ 8)
    (hq : (w σ)[q0]? = some (b, .inr (ci, fs))) (hc : cl[ci]? = some (y.cls, T, N)) (hrm : rm.cells = 0 ∧ rm.slots = 0) (hR : rm.frames + 1 ≤ R.frames ∧ 8 + (maxL + 11) + rm.locals ≤ R.locals) (hdg : decode cc pc = .ok (.invokevirtual index, 3))
    (kk : ∀ (H1 : Heap) (locs1 : List Loc), zz_X D cl tys A s H1 locs1 (w out.2) → W p l e R s m args below meth c H1 locs1 0 0 Q (F0 m (pc + 3) ls (.int out.1 :: rest))) : W p l e R s m args below meth c H locs 0 0 Q (F0 m pc ls st) := by
  refine va_calli (va_runV (As := As) (rest := rest) ⟨hx, hb, hml, hown, hts⟩ (hM H.size) (cwV n hts (zz_gv k hl) rfl hrm.1 hrm.2 ⟨rfl, k.2.2.2.2⟩ hR) ⟨zz_blind, va_recv X.1 X.2.1 hc hq, fun U hU hW => ⟨rfl, by rw [hU], by rw [hU]; exact X.2.1, va_K.moved hW.alike X.1, X.2.2.1.weaken (fun _ _ _ _ => trivial)⟩⟩ rfl hn hsz hst (lv_room hW) hdg ⟨Nat.zero_le _, Nat.zero_le _⟩) X.2.2.2.1 (fun q _ h => X.fr q h) X.fr (fun r u t H1 locs1 ht hvm hw hB hz1 hk1 hS => ?_)
  obtain ⟨rfl, rfl⟩ := hw
  obtain ⟨hP1, hK1, hD1⟩ := hB
  rw [ht] at hP1
  exact kk H1 locs1 ⟨X.1, hP1, hD1.weaken (fun k q _ h => X.fr q.1 h), hS, X.2.2.2.2⟩
theorem zr_cvP {r : Int32} (hx : p.tables.exec = Jvm.exec) (hb : c.code = cc) (hml : c.maxLocals = nL) (hown : s.vm.findClass own = some m.cls) (hts : ∀ w ∈ zz_WS, w.before args s = true) (hsz : ls.size = nL) (X : zz_X D cl tys A s H locs (w σ))
    (hM : zI l D cl tys w y (.code y bytes maxL ret :: zz_WS) rm (.ref b :: As) σ (r, σ)) (k : zz_kv y bytes maxL ret n) (hl : Cond.methodLink own index y ∈ zz_WS) (hn : As.length = n) (hst : st = As.reverse ++ .ref b :: rest) (hW : (rest.map fun v => v.category).sum ≤ 8)
    (hq : (w σ)[q0]? = some (b, .inr (ci, fs))) (hc : cl[ci]? = some (y.cls, T, N)) (hrm : rm.cells = 0 ∧ rm.slots = 0) (hR : rm.frames + 1 ≤ R.frames ∧ 8 + (maxL + 11) + rm.locals ≤ R.locals) (hdg : decode cc pc = .ok (.invokevirtual index, 3))
    (kk : ∀ (H1 : Heap) (locs1 : List Loc), zz_X D cl tys A s H1 locs1 (w σ) → W p l e R s m args below meth c H1 locs1 0 0 Q (F0 m (pc + 3) ls (.int r :: rest))) : W p l e R s m args below meth c H locs 0 0 Q (F0 m pc ls st) :=
  zr_cvI hx hb hml hown hts hsz X hM k hl hn hst hW hq hc hrm hR hdg kk
theorem zr_cvV {out : St} (hx : p.tables.exec = Jvm.exec) (hb : c.code = cc) (hml : c.maxLocals = nL) (hown : s.vm.findClass own = some m.cls) (hts : ∀ w ∈ zz_WS, w.before args s = true) (hsz : ls.size = nL) (X : zz_X D cl tys A s H locs (w σ))
    (hM : zV l D cl tys w y (.code y bytes maxL ret :: zz_WS) rm (.ref b :: As) σ out) (k : zz_kv y bytes maxL ret n) (hl : Cond.methodLink own index y ∈ zz_WS) (hn : As.length = n) (hst : st = As.reverse ++ .ref b :: rest) (hW : (rest.map fun v => v.category).sum ≤ 8)
    (hq : (w σ)[q0]? = some (b, .inr (ci, fs))) (hc : cl[ci]? = some (y.cls, T, N)) (hrm : rm.cells = 0 ∧ rm.slots = 0) (hR : rm.frames + 1 ≤ R.frames ∧ 8 + (maxL + 11) + rm.locals ≤ R.locals) (hdg : decode cc pc = .ok (.invokevirtual index, 3))
    (kk : ∀ (H1 : Heap) (locs1 : List Loc), zz_X D cl tys A s H1 locs1 (w out) → W p l e R s m args below meth c H1 locs1 0 0 Q (F0 m (pc + 3) ls rest)) : W p l e R s m args below meth c H locs 0 0 Q (F0 m pc ls st) := by
  refine va_callv (va_runV (As := As) (rest := rest) ⟨hx, hb, hml, hown, hts⟩ (hM H.size) (cwV n hts (zz_gv k hl) rfl hrm.1 hrm.2 ⟨rfl, k.2.2.2.2⟩ hR) ⟨zz_blind, va_recv X.1 X.2.1 hc hq, fun U hU hW => ⟨rfl, by rw [hU], by rw [hU]; exact X.2.1, va_K.moved hW.alike X.1, X.2.2.1.weaken (fun _ _ _ _ => trivial)⟩⟩ rfl hn hsz hst (lv_room hW) hdg ⟨Nat.zero_le _, Nat.zero_le _⟩) X.2.2.2.1 (fun q _ h => X.fr q h) X.fr (fun u t H1 locs1 ht hvm hw hB hz1 hk1 hS => ?_)
  obtain rfl := hw
  obtain ⟨hP1, hK1, hD1⟩ := hB
  rw [ht] at hP1
  exact kk H1 locs1 ⟨X.1, hP1, hD1.weaken (fun k q _ h => X.fr q.1 h), hS, X.2.2.2.2⟩
theorem zr_csI {out : Int32 × St} (hx : p.tables.exec = Jvm.exec) (hb : c.code = cc) (hml : c.maxLocals = nL) (hown : s.vm.findClass own = some m.cls) (hts : ∀ w ∈ zz_WS, w.before args s = true) (hsz : ls.size = nL) (X : zz_X D cl tys A s H locs (w σ))
    (hM : zI l D cl tys w y (.code y bytes maxL ret :: zz_WS) rm As σ out) (k : zz_ks y bytes maxL ret n) (hl : Cond.methodLink own index y ∈ zz_WS) (hn : As.length = n) (hst : st = As.reverse ++ rest) (hW : (rest.map fun v => v.category).sum ≤ 8)
    (hrm : rm.cells = 0 ∧ rm.slots = 0) (hR : rm.frames + 1 ≤ R.frames ∧ 8 + (maxL + 11) + rm.locals ≤ R.locals) (hdg : decode cc pc = .ok (.invokestatic index, 3))
    (kk : ∀ (H1 : Heap) (locs1 : List Loc), zz_X D cl tys A s H1 locs1 (w out.2) → W p l e R s m args below meth c H1 locs1 0 0 Q (F0 m (pc + 3) ls (.int out.1 :: rest))) : W p l e R s m args below meth c H locs 0 0 Q (F0 m pc ls st) := by
  refine va_calli (va_runS (As := As) (rest := rest) ⟨hx, hb, hml, hown, hts⟩ (hM H.size) (va_cwS n hts (zz_gs k hl) rfl hrm.1 hrm.2 k.2.2.2 hR) ⟨zz_blind, fun U hU hW => ⟨rfl, by rw [hU], by rw [hU]; exact X.2.1, va_K.moved hW.alike X.1, X.2.2.1.weaken (fun _ _ _ _ => trivial)⟩⟩ rfl hn hsz hst (lv_room hW) hdg ⟨Nat.zero_le _, Nat.zero_le _⟩) X.2.2.2.1 (fun q _ h => X.fr q h) X.fr (fun r u t H1 locs1 ht hvm hw hB hz1 hk1 hS => ?_)
  obtain ⟨rfl, rfl⟩ := hw
  obtain ⟨hP1, hK1, hD1⟩ := hB
  rw [ht] at hP1
  exact kk H1 locs1 ⟨X.1, hP1, hD1.weaken (fun k q _ h => X.fr q.1 h), hS, X.2.2.2.2⟩
theorem zr_csP {r : Int32} (hx : p.tables.exec = Jvm.exec) (hb : c.code = cc) (hml : c.maxLocals = nL) (hown : s.vm.findClass own = some m.cls) (hts : ∀ w ∈ zz_WS, w.before args s = true) (hsz : ls.size = nL) (X : zz_X D cl tys A s H locs (w σ))
    (hM : zI l D cl tys w y (.code y bytes maxL ret :: zz_WS) rm As σ (r, σ)) (k : zz_ks y bytes maxL ret n) (hl : Cond.methodLink own index y ∈ zz_WS) (hn : As.length = n) (hst : st = As.reverse ++ rest) (hW : (rest.map fun v => v.category).sum ≤ 8)
    (hrm : rm.cells = 0 ∧ rm.slots = 0) (hR : rm.frames + 1 ≤ R.frames ∧ 8 + (maxL + 11) + rm.locals ≤ R.locals) (hdg : decode cc pc = .ok (.invokestatic index, 3))
    (kk : ∀ (H1 : Heap) (locs1 : List Loc), zz_X D cl tys A s H1 locs1 (w σ) → W p l e R s m args below meth c H1 locs1 0 0 Q (F0 m (pc + 3) ls (.int r :: rest))) : W p l e R s m args below meth c H locs 0 0 Q (F0 m pc ls st) :=
  zr_csI hx hb hml hown hts hsz X hM k hl hn hst hW hrm hR hdg kk
end ZC
end ZR
