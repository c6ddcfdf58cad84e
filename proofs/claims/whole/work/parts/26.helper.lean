/-! THE LAW'S HELPERS: a face method's call between try and catch -/
section ZK
variable {p : Program} {l : Launch} {e : Env} {R : Room} {s : State} {m : MethodId} {args : Array Value} {below : List Frame} {meth : Method} {c : Code} {H : Heap} {locs : List Loc} {Q : State → Prop}
variable {cc : ByteArray} {pc : Nat} {ls : Array Slot} {rest : List Value} {D : va_G} {A : Nat → Prop} {cl : List vw_C} {tys tys' : List (ClassId × FieldType)} {w : St → va_W} {σ : St} {r : va_W}
variable {own : String} {index nL maxL n q0 ci N : Nat} {y : MethodName} {bytes : ByteArray} {ret : Option FieldType} {rm : Room} {b : Addr} {As : List Value} {st : List Value} {T0 : u_T} {fs : List Value}
theorem zr_fc {vd : Bool} {out : TO} (hx : p.tables.exec = Jvm.exec) (hb : c.code = cc) (hml : c.maxLocals = nL) (hown : s.vm.findClass own = some m.cls) (hts : ∀ w ∈ zz_WS, w.before args s = true) (hsz : ls.size = nL) (hok : zt_ok s)
    (hstat : ∀ q : Nat, q < s.heap.size → A q → ∀ cell : Cell, s.heap[q]? = some cell → cell.vm.isStatics = false) (X : zz_X D cl tys A s H locs (w σ ++ r)) (ist : List Nat) (hty : ist.filterMap (fun i => tys[i]?) = tys')
    (hM : zF vd l D cl tys' w y (.code y bytes maxL ret :: zz_WS) rm (.ref b :: As) σ out) (k : zz_kv y bytes maxL ret n) (hl : Cond.methodLink own index y ∈ zz_WS) (hn : As.length = n) (hst : st = As.reverse ++ .ref b :: rest) (hW : (rest.map fun v => v.category).sum ≤ 8)
    (hq : (w σ)[q0]? = some (b, .inr (ci, fs))) (hc : cl[ci]? = some (y.cls, T0, N)) (hrm : rm.cells = 1 ∧ rm.slots = 6) (hR : rm.frames + 1 ≤ R.frames ∧ 8 + (maxL + 11) + rm.locals ≤ R.locals) (hcap : 1 ≤ R.cells ∧ 6 ≤ R.slots) (hdg : decode cc pc = .ok (.invokevirtual index, 3))
    (kR : out.1 = 0 → ∀ (H1 : Heap) (locs1 : List Loc), zz_X D cl tys A s H1 locs1 (w out.2.2 ++ r) → W p l e R s m args below meth c H1 locs1 1 6 Q (F0 m (pc + 3) ls ((if vd then [] else [.int out.2.1]) ++ rest)))
    (kT : out.1 ≠ 0 → ∀ (H1 : Heap) (locs1 : List Loc) (x : Nat) (cell : Cell), zz_X D cl tys A s H1 locs1 (w out.2.2 ++ r) → H1[x]? = some cell → cell.vm = .none → s.vm.findClass (zt_ex out.1) = some cell.cls →
      ∀ T1 : State, T1.heap = H1 → Stand p l e R s m args below meth c T1 locs1 1 6 → ∃ t, Steps p.tables e below ((T1.setTop (F0 m pc ls rest)).pushFrame (.throwing x)) t ∧ Q t) :
    W p l e R s m args below meth c H locs 0 0 Q (F0 m pc ls st) := by
  intro T hT Xs
  obtain ⟨o, s₂, U, L, XU, hUh, hUv, XX, hcase⟩ := zy_call Xs hT hx hb hml hown hts hsz hok hstat X ist hty hM k hl hn hst hW hq hc hrm hR hcap hdg
  rcases hcase with ⟨h0, -, hst2⟩ | ⟨h0, x, cell, hcx, hvx, hfx, hst2⟩
  · obtain ⟨t, a1, b1⟩ := kR h0 U.heap _ XX U rfl XU
    exact ⟨t, hst2 t a1, b1⟩
  · obtain ⟨t, a1, b1⟩ := kT h0 U.heap _ x cell XX hcx hvx hfx U rfl XU
    exact ⟨t, hst2 t a1, b1⟩
theorem zr_ct {H1 : Heap} {locs1 : List Loc} {cells slots : Nat} (hown : s.vm.findClass own = some m.cls) (hts : ∀ w ∈ zz_WS, w.before args s = true) (hok : zt_ok s) {x : Nat} {cell : Cell} (hcell : H1[x]? = some cell) (hobj : cell.vm = .none) {E : String} (hE : s.vm.findClass E = some cell.cls)
    {pre rs : List (Nat × Nat × Nat × Nat)} {sp en hd ct : Nat} {tb : List (Nat × Nat × Nat × Nat)} (htab : c.exceptionTable.toList.map zh_F = tb) (heq : tb = pre ++ (sp, en, hd, ct) :: rs) (hin : sp ≤ pc ∧ pc < en) (h0 : ct ≠ 0)
    (hlink : Cond.classLink own ct E ∈ zz_WS) (hcast : Cond.castable E E ∈ zt_NG) (hpre : ∀ y ∈ pre, (y.1 ≤ pc ∧ pc < y.2.1) ∧ y.2.2.2 ≠ 0 ∧ ∃ N : String, Cond.classLink own y.2.2.2 N ∈ zz_WS ∧ Cond.not (.castable E N) ∈ zt_NG)
    (kk : W p l e R s m args below meth c H1 locs1 cells slots Q (F0 m hd ls [.ref x])) :
    ∀ T1 : State, T1.heap = H1 → Stand p l e R s m args below meth c T1 locs1 cells slots → ∃ t, Steps p.tables e below ((T1.setTop (F0 m pc ls rest)).pushFrame (.throwing x)) t ∧ Q t := by
  intro T1 hT1 X1
  obtain ⟨vm', X', hst⟩ := zh_at X1 hown (x := x) (cell := cell) (by rw [hT1]; exact hcell) hobj hE (g := F0 m pc ls rest) rfl (htab.trans heq) hin h0 (hts _ hlink) (hok _ hcast args) (fun y hy => by
    obtain ⟨a1, a2, N, a3, a4⟩ := hpre y hy
    exact ⟨a1, a2, N, hts _ a3, hok _ a4 args⟩)
  obtain ⟨t, a1, b1⟩ := kk (T1.setVm vm') hT1 X'
  exact ⟨t, hst t a1, b1⟩
end ZK
abbrev LO : Type := Nat → Int64
/-- the world of a helper: the system's, and the law's array of one long -/
def wH (q : Nat → Nat) (cI cZ : ClassId) (qo : Nat) (cJ : ClassId) (u : St × LO) : va_W := wS q cI cZ u.1 ++ [(qo, .inl (cJ, 1, .inr (.inl u.2)))]
abbrev zz_tyJ (cI cZ cJ : ClassId) : List (ClassId × FieldType) := [(cI, .int), (cZ, .boolean), (cJ, .long)]
def zq_H {S : Type} (D : va_G) (cl : List vw_C) (tys : List (ClassId × FieldType)) (w : S → va_W) (A : Nat → Prop) (out : Int32 × S) : Array Value → State → Outcome → State → Prop :=
  va_Qi (fun (r : Int32) (u : S) => r = out.1 ∧ u = out.2) (fun u t => va_P D cl (w u) t.heap ∧ va_K D cl tys t ∧ va_D A (w u)) A
def zH {S : Type} (l : Launch) (D : va_G) (cl : List vw_C) (tys : List (ClassId × FieldType)) (w : S → va_W) (y : MethodName) (ws : List Cond) (rm : Room) (as : List Value) (u : S) (out : Int32 × S) : Prop :=
  ∀ sz : Nat, Met l y ws rm (zt_pre D cl tys (w u) as sz) (zq_H D cl tys w (va_A (w u) sz) out) 1 6 (va_A (w u) sz)
theorem zH_of {S : Type} {l : Launch} {D : va_G} {cl : List vw_C} {tys : List (ClassId × FieldType)} {w : S → va_W} {y : MethodName} {cc : ByteArray} {maxL : Nat} {ret : Option FieldType} {hh : List (Nat × Nat × Nat × Nat)} {rm : Room} {as : List Value} {u : S} {out : Int32 × S} (hy : plainName y.cls = true) (hn : (lg_sl as).length ≤ maxL)
    (body : ∀ (p : Program) (e : Env) (s : State) (m : MethodId) (below : List Frame) (meth : Method) (c : Code) (A : Nat → Prop) (ls : Array Slot), p.tables.exec = Jvm.exec → c.code = cc → c.maxLocals = maxL → s.vm.findClass y.cls = some m.cls → (∀ w ∈ zz_WS, w.before as.toArray s = true) → meth.sig.returnType = ret → meth.locks = false → c.exceptionTable.toList.map zh_F = hh → zt_ok s → (∀ q : Nat, q < s.heap.size → A q → ∀ cell : Cell, s.heap[q]? = some cell → cell.vm.isStatics = false) →
      zz_X D cl tys A s s.heap [] (w u) → lv_has ls maxL (lv_args 0 as) → W p l e rm s m as.toArray below meth c s.heap [] 0 0 (MQ below (zq_H D cl tys w A out) as.toArray s 1 6 A) (F0 m 0 ls [])) : zH l D cl tys w y (.codeWith y cc maxL ret hh :: zz_WS) rm as u out := by
  intro sz
  refine va_MetW (cc := cc) (maxL := maxL) (ret := ret) (hh := hh) hy rfl ?_
  intro p e s m args below meth c s₁ B hml hv
  obtain ⟨rfl, hsz, hP, hK, hD0, hok⟩ := hv
  have hts := atoms_spec (ws := .codeWith y cc maxL ret hh :: zz_WS) B.pre
  obtain ⟨m9, meth9, c9, hn9, h1, h2, h3, h4, htab, h5, h6, -⟩ := Cond.codeWith_spec (hts _ List.mem_cons_self)
  cases B.named.symm.trans hn9
  cases B.method.symm.trans h1
  cases (Stand.of_body B).code.symm.trans h2
  subst hsz
  have hl := lv_entry as (n := maxL) hn
  rw [lg_entry_eq]
  refine body p e s m below meth _ _ _ B.exec B.bytes hml (findClass_of_methodNamed B.named) (fun w hw => hts w (List.mem_cons_of_mem _ hw)) B.returns B.notSynchronized htab hok ?_ ⟨hK, hP, hD0.self, va_S.rf, fun q h => Or.inr h⟩ hl
  intro q hq hA cell hcell
  rcases hA with ⟨k, e, h⟩ | h
  · have h1 := hP k (q, e) h
    cases e with
    | inl a =>
      have h2 : s.heap[q]? = some (vp_cell a.1 a.2) := h1
      rw [hcell] at h2
      obtain rfl := Option.some.inj h2
      obtain ⟨ca, n, f⟩ := a
      rcases f with f | f | f | f | f <;> rfl
    | inr o =>
      obtain ⟨r, -, c2, h2, -, h3, -⟩ := h1
      rw [hcell] at h2
      obtain rfl := Option.some.inj h2
      rw [h3]; rfl
  · omega
/-- a helper's answer to a face method's outcome -/
def zh_n (k : Nat) : Int32 := if k = 0 then 0 else if k = 1 then 1 else if k = 2 then 2 else if k = 3 then 3 else 2
section ZL
variable {p : Program} {l : Launch} {e : Env} {R : Room} {s : State} {m : MethodId} {args : Array Value} {below : List Frame} {meth : Method} {c : Code} {H : Heap} {locs : List Loc} {Q : State → Prop}
variable {cc : ByteArray} {pc : Nat} {ls : Array Slot} {rest : List Value} {D : va_G} {A : Nat → Prop} {cl : List vw_C} {tys : List (ClassId × FieldType)}
theorem zr_hret {S : Type} {w : S → va_W} {u : S} (hx : p.tables.exec = Jvm.exec) (hb : c.code = cc) (hr : meth.sig.returnType = some .int) (hlocks : meth.locks = false) (X : zz_X D cl tys A s H locs (w u)) {v : Int32} {out : Int32 × S} (ho : (v, u) = out) (hdg : decode cc pc = .ok (.ireturn, 1)) :
    W p l e R s m args below meth c H locs 1 6 (MQ below (zq_H D cl tys w A out) args s 1 6 A) (F0 m pc ls [.int v]) := by
  subst ho
  exact W.iret (v := v) hx hb hr (fun t ht hW => ⟨⟨v, u, rfl, ⟨rfl, rfl⟩, by rw [ht]; exact X.2.1, va_K.moved hW.alike X.1, X.2.2.1⟩, X.2.2.2.1.F ht⟩) X.2.2.2.1.2.2 hdg
end ZL
