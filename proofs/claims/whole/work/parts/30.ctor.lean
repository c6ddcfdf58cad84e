/-! CONSTRUCTORS -/
theorem zc_uI {D : va_G} {cl : List vw_C} {tys : List (ClassId × FieldType)} {U : State} (hK : va_K D cl tys U) (i j : Nat) {c1 c2 : ClassId} (h1 : tys[i]? = some (c1, .int)) (h2 : tys[j]? = some (c2, .int)) : c1 = c2 := by
  have a1 : U.vm.findClass _ = some c1 := (hK.2 i _ h1).2
  have a2 : U.vm.findClass _ = some c2 := (hK.2 j _ h2).2
  exact Option.some.inj (a1.symm.trans a2)
theorem zc_uZ {D : va_G} {cl : List vw_C} {tys : List (ClassId × FieldType)} {U : State} (hK : va_K D cl tys U) (i j : Nat) {c1 c2 : ClassId} (h1 : tys[i]? = some (c1, .boolean)) (h2 : tys[j]? = some (c2, .boolean)) : c1 = c2 := by
  have a1 : U.vm.findClass _ = some c1 := (hK.2 i _ h1).2
  have a2 : U.vm.findClass _ = some c2 := (hK.2 j _ h2).2
  exact Option.some.inj (a1.symm.trans a2)
def zc_pre (D : va_G) (cl : List vw_C) (ws : va_W) (as : List Value) (sz : Nat) : Array Value → State → Prop :=
  va_Pc as (fun U => U.heap.size = sz ∧ va_P D cl ws U.heap ∧ va_K D cl [] U ∧ va_D (fun _ => True) ws)
/-- what a constructor leaves: u names the new addresses and numbers -/
abbrev UC : Type := (Nat → Nat) × ClassId × ClassId × St
def zc_Q (D : va_G) (cl : List vw_C) (tys : UC → List (ClassId × FieldType)) (w : UC → va_W) (A : Nat → Prop) (post : UC → Prop) : Array Value → State → Outcome → State → Prop :=
  va_Qv post (fun u t => va_P D cl (w u) t.heap ∧ va_K D cl (tys u) t ∧ va_D A (w u)) A
def zC (l : Launch) (D : va_G) (cl : List vw_C) (tys : UC → List (ClassId × FieldType)) (w : UC → va_W) (y : MethodName) (ws : List Cond) (rm : Room) (as : List Value) (w0 : va_W) (post : UC → Prop) (mc ms : Nat) : Prop :=
  ∀ sz : Nat, Met l y ws rm (zc_pre D cl w0 as sz) (zc_Q D cl tys w (va_A w0 sz) post) mc ms (va_A w0 sz)
section ZCT
variable {p : Program} {l : Launch} {e : Env} {R : Room} {s : State} {m : MethodId} {args : Array Value} {below : List Frame} {meth : Method} {c : Code} {H : Heap} {locs : List Loc} {cells slots : Nat} {Q : State → Prop}
variable {cc : ByteArray} {pc : Nat} {ls : Array Slot} {rest : List Value} {D : va_G} {A : Nat → Prop} {cl : List vw_C} {tys : List (ClassId × FieldType)} {r : va_W}
variable {own : String} {index nL maxL n ci N : Nat} {y : MethodName} {bytes : ByteArray} {ret : Option FieldType} {rm : Room} {b : Addr} {As : List Value} {st : List Value}
theorem zC_of {tysf : UC → List (ClassId × FieldType)} {w : UC → va_W} {as : List Value} {w0 : va_W} {post : UC → Prop} {mc ms : Nat} (hy : plainName y.cls = true) (hn : (lg_sl as).length ≤ maxL)
    (body : ∀ (p : Program) (e : Env) (s : State) (m : MethodId) (below : List Frame) (meth : Method) (c : Code) (A : Nat → Prop) (ls : Array Slot), p.tables.exec = Jvm.exec → c.code = cc → c.maxLocals = maxL → s.vm.findClass y.cls = some m.cls → (∀ w ∈ zz_WS, w.before as.toArray s = true) → meth.sig.returnType = none → meth.locks = false → meth.name = y.name →
      zz_X D cl [] A s s.heap [] w0 → lv_has ls maxL (lv_args 0 as) → W p l e rm s m as.toArray below meth c s.heap [] 0 0 (MQ below (zc_Q D cl tysf w A post) as.toArray s mc ms A) (F0 m 0 ls [])) : zC l D cl tysf w y (.code y cc maxL none :: zz_WS) rm as w0 post mc ms := by
  intro sz
  refine Met.ofW (cc := cc) (maxL := maxL) (ret := none) hy rfl ?_
  intro p e s m args below meth c s₁ B hml hv
  obtain ⟨rfl, hsz, hP, hK, hD0⟩ := hv
  have hts := atoms_spec (ws := .code y cc maxL none :: zz_WS) B.pre
  subst hsz
  have hl := lv_entry as (n := maxL) hn
  rw [lg_entry_eq]
  exact body p e s m below meth c _ _ B.exec B.bytes hml (findClass_of_methodNamed B.named) (fun w hw => hts w (List.mem_cons_of_mem _ hw)) B.returns B.notSynchronized (name_of_methodNamed B.named B.method).1 ⟨hK, hP, hD0.self, va_S.rf, fun q h => Or.inr h⟩ hl
theorem zr_cret {tysf : UC → List (ClassId × FieldType)} {w : UC → va_W} {post : UC → Prop} {mc ms : Nat} (hx : p.tables.exec = Jvm.exec) (hb : c.code = cc) (hr : meth.sig.returnType = none) (hlocks : meth.locks = false) (u : UC) (hu : post u) {ws : va_W} (X : zz_X D cl tys A s H locs ws) (he : ws = w u) (ist : List Nat) (hty : ist.filterMap (fun i => tys[i]?) = tysf u) (hcs : cells ≤ mc ∧ slots ≤ ms) (hdg : decode cc pc = .ok (.return_, 1)) :
    W p l e R s m args below meth c H locs cells slots (MQ below (zc_Q D cl tysf w A post) args s mc ms A) (F0 m pc ls []) := by
  subst he
  refine W.widen (k := mc) (n := ms) hcs.1 hcs.2 ?_
  exact W.vret hx hb hr (fun t ht hW => ⟨⟨u, rfl, hu, by rw [ht]; exact X.2.1, va_K.moved hW.alike (X.1.sub ist hty), X.2.2.1⟩, X.2.2.2.1.F ht⟩) X.2.2.2.1.2.2 hdg
theorem zr_new {C : String} {T : u_T} {fs : List Value} {ws : va_W} (hx : p.tables.exec = Jvm.exec) (hb : c.code = cc) (hown : s.vm.findClass own = some m.cls) (hts : ∀ w ∈ zz_WS, w.before args s = true) (hin : ∀ w ∈ u_ws C T N, w ∈ zz_WS) (ty : Nat → FieldType) (hty : ∀ k, k < N → parseFieldDescriptor (T k).2.2.1 = some (ty k)) (hcl : Cond.classLink own index C ∈ zz_WS) (hinst : Cond.instantiable C N ∈ zz_WS) (hini : Cond.initialized C ∈ zz_WS)
    (X : zz_X D cl tys A s H locs ws) (hc : cl[ci]? = some (C, T, N)) (hfs : ∀ j, j < N → defaultValue (ty j) = vp_V fs j) (hcs : cells + 1 ≤ R.cells ∧ slots + N ≤ R.slots) (hdg : decode cc pc = .ok (.new index, 3))
    (kk : ∀ (q : Nat) (H1 : Heap), zz_X D cl tys A s H1 locs ((q, .inr (ci, fs)) :: ws) → W p l e R s m args below meth c H1 locs (cells + 1) (slots + N) Q (F0 m (pc + 3) ls (.ref q :: rest))) : W p l e R s m args below meth c H locs cells slots Q (F0 m pc ls rest) :=
  va_new hx hb hts hin ty hty hown (hts _ hcl) (hts _ hinst) (hts _ hini) X.1 X.2.1 X.2.2.1 X.2.2.2.1 X.2.2.2.2 hc hfs hcs.1 hcs.2 hdg (fun q H1 hP hD hS => kk q H1 (zx_swap (w := ws) (r := [(q, .inr (ci, fs))]) ⟨X.1, hP, hD, hS, X.2.2.2.2⟩))
theorem zr_newa {atype : ArrayType} {ty : FieldType} (hty : newarray.typeOf atype = ty) {ws : va_W} (hx : p.tables.exec = Jvm.exec) (hb : c.code = cc) (hts : ∀ w ∈ zz_WS, w.before args s = true) (harr : Cond.arrayClass (newarray.typeOf atype) ∈ zz_WS) (X : zz_X D cl tys A s H locs ws)
    {n : Int32} {N' : Nat} {a0 : vp_A} (ha : ∀ cA : ClassId, vp_cell cA a0 = arrV cA N' (fun _ => defaultValue ty)) (hn : ¬ n < 0) (hN : n.toNatClampNeg = N') (hbytes : N' * componentBytes ty ≤ 536870912) (hcs : cells + 1 ≤ R.cells ∧ slots + N' ≤ R.slots) (hdg : decode cc pc = .ok (.newarray atype, 2))
    (kk : ∀ (q : Nat) (cA : ClassId) (H1 : Heap), zz_X D cl (tys ++ [(cA, ty)]) A s H1 locs (ws ++ [(q, .inl (cA, a0))]) → W p l e R s m args below meth c H1 locs (cells + 1) (slots + N') Q (F0 m (pc + 2) ls (.ref q :: rest))) : W p l e R s m args below meth c H locs cells slots Q (F0 m pc ls (.int n :: rest)) :=
  va_newa hx hb (hts _ harr) hty X.1 X.2.1 X.2.2.1 X.2.2.2.1 X.2.2.2.2 ha hn hN hbytes hcs.1 hcs.2 hdg (fun q cA H1 hK hP hD hS => kk q cA H1 ⟨hK, hP, hD, hS, X.2.2.2.2⟩)
/-- a constructor's call: the new object stands first in the world -/
theorem zr_ci {tysf : UC → List (ClassId × FieldType)} {w : UC → va_W} {post : UC → Prop} {mc ms : Nat} {fs : List Value} (hx : p.tables.exec = Jvm.exec) (hb : c.code = cc) (hml : c.maxLocals = nL) (hown : s.vm.findClass own = some m.cls) (hts : ∀ w ∈ zz_WS, w.before args s = true) (hsz : ls.size = nL) (X : zz_X D cl tys A s H locs ((b, .inr (ci, fs)) :: r))
    (hM : zC l D cl tysf w y (.code y bytes maxL none :: zz_WS) rm (.ref b :: As) [(b, .inr (ci, fs))] post mc ms) (hcode : Cond.code y bytes maxL none ∈ zz_WS) (hini : Cond.initialized y.cls ∈ zz_WS) (hl : Cond.methodLink own index y ∈ zz_WS) (hin : Cond.instanceMethod y ∈ zz_WS) (hy1 : y.name = "<init>")
    (hd : y.cls ≠ "java/lang/invoke/MethodHandle" ∧ y.cls ≠ "java/lang/invoke/VarHandle" ∧ (parseMethodDescriptor y.desc).map (fun d => d.parameters.length) = some n) (hn : As.length = n) (hst : st = As.reverse ++ .ref b :: rest) (hW : (rest.map fun v => v.category).sum ≤ 8) (hrm : rm.cells = mc ∧ rm.slots = ms) (hR : rm.frames + 1 ≤ R.frames ∧ 8 + (maxL + 11) + rm.locals ≤ R.locals) (hcs : cells + mc ≤ R.cells ∧ slots + ms ≤ R.slots) (hdg : decode cc pc = .ok (.invokespecial index, 3))
    (kk : ∀ (u : UC) (H1 : Heap) (locs1 : List Loc), post u → zz_X D cl (tys ++ tysf u) A s H1 locs1 (w u ++ r) → W p l e R s m args below meth c H1 locs1 (cells + mc) (slots + ms) Q (F0 m (pc + 3) ls rest)) : W p l e R s m args below meth c H locs cells slots Q (F0 m pc ls st) := by
  have X : zz_X D cl tys A s H locs ([(b, .inr (ci, fs))] ++ r) := X
  have hG : GoodIn zz_WS (.code y bytes maxL none :: zz_WS) := fun w hw => by
    have h : w ∈ zz_WS := by
      rcases List.mem_cons.mp hw with rfl | h
      · exact hcode
      · exact h
    exact ⟨h, zz_good w h⟩
  refine va_callv (va_runI (As := As) (rest := rest) ⟨hx, hb, hml, hown, hts⟩ (hM H.size) (cwI n hts hG rfl hrm.1 hrm.2 (hts _ hini) (hts _ hl) (hts _ hin) hy1 hd hR) ⟨fun a U g mk q => by obtain ⟨q0, q1, qP, qK, qD⟩ := q; exact ⟨q0, q1, qP, va_K.moved (u := U) (U := U.calling g mk a) (Vm.Alike.refl U.vm) qK, qD⟩, fun U hU hW => ⟨rfl, by rw [hU], by rw [hU]; exact zx_P X, va_K.moved hW.alike (X.1.sub (tys' := []) [] rfl), (zx_D X).weaken (fun _ _ _ _ => trivial)⟩⟩ rfl hn hsz hst (lv_room hW) hdg hcs) X.2.2.2.1 (fun q _ h => zx_fr X q h) (zx_fr X) (fun u t H1 locs1 ht hvm hw hB hz1 hk1 hS => ?_)
  obtain ⟨hP1, hK1, hD1⟩ := hB
  rw [ht] at hP1
  have X1 := zx_merge X hk1 hP1 hD1 hS
  exact kk u H1 locs1 hw ⟨X.1.app (va_K.moved hvm.symm hK1), X1.2⟩
end ZCT
section ZCU
variable {p : Program} {l : Launch} {e : Env} {R : Room} {s : State} {m : MethodId} {args : Array Value} {below : List Frame} {meth : Method} {c : Code} {H : Heap} {locs : List Loc} {cells slots : Nat} {Q : State → Prop}
variable {cc : ByteArray} {pc : Nat} {ls : Array Slot} {rest : List Value} {D : va_G} {A : Nat → Prop} {cl : List vw_C} {tys : List (ClassId × FieldType)} {w : St → va_W} {σ : St}
variable {own : String} {index nL maxL n q0 ci N : Nat} {y : MethodName} {bytes : ByteArray} {ret : Option FieldType} {rm : Room} {b : Addr} {As : List Value} {st : List Value} {T : u_T} {fs : List Value}
theorem zr_cvVg {out : St} (hx : p.tables.exec = Jvm.exec) (hb : c.code = cc) (hml : c.maxLocals = nL) (hown : s.vm.findClass own = some m.cls) (hts : ∀ w ∈ zz_WS, w.before args s = true) (hsz : ls.size = nL) (X : zz_X D cl tys A s H locs (w σ))
    (hM : zV l D cl tys w y (.code y bytes maxL ret :: zz_WS) rm (.ref b :: As) σ out) (k : zz_kv y bytes maxL ret n) (hl : Cond.methodLink own index y ∈ zz_WS) (hn : As.length = n) (hst : st = As.reverse ++ .ref b :: rest) (hW : (rest.map fun v => v.category).sum ≤ 8)
    (hq : (w σ)[q0]? = some (b, .inr (ci, fs))) (hc : cl[ci]? = some (y.cls, T, N)) (hrm : rm.cells = 0 ∧ rm.slots = 0) (hR : rm.frames + 1 ≤ R.frames ∧ 8 + (maxL + 11) + rm.locals ≤ R.locals) (hcs : cells ≤ R.cells ∧ slots ≤ R.slots) (hdg : decode cc pc = .ok (.invokevirtual index, 3))
    (kk : ∀ (H1 : Heap) (locs1 : List Loc), zz_X D cl tys A s H1 locs1 (w out) → W p l e R s m args below meth c H1 locs1 cells slots Q (F0 m (pc + 3) ls rest)) : W p l e R s m args below meth c H locs cells slots Q (F0 m pc ls st) := by
  refine va_callv (va_runV (As := As) (rest := rest) ⟨hx, hb, hml, hown, hts⟩ (hM H.size) (cwV n hts (zz_gv k hl) rfl hrm.1 hrm.2 ⟨rfl, k.2.2.2.2⟩ hR) ⟨zz_blind, va_recv X.1 X.2.1 hc hq, fun U hU hW => ⟨rfl, by rw [hU], by rw [hU]; exact X.2.1, va_K.moved hW.alike X.1, X.2.2.1.weaken (fun _ _ _ _ => trivial)⟩⟩ rfl hn hsz hst (lv_room hW) hdg hcs) X.2.2.2.1 (fun q _ h => X.fr q h) X.fr (fun u t H1 locs1 ht hvm hw hB hz1 hk1 hS => ?_)
  obtain rfl := hw
  obtain ⟨hP1, hK1, hD1⟩ := hB
  rw [ht] at hP1
  exact kk H1 locs1 ⟨X.1, hP1, hD1.weaken (fun k q _ h => X.fr q.1 h), hS, X.2.2.2.2⟩
end ZCU
