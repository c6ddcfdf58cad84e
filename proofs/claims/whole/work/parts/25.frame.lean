/-! CALLS OVER A PART OF THE WORLD; calls of face methods, with their catch -/
section ZX
variable {D : va_G} {cl : List vw_C} {tys : List (ClassId × FieldType)} {A : Nat → Prop} {s : State} {H : Heap} {locs : List Loc} {w w1 r : va_W}
theorem zx_P (X : zz_X D cl tys A s H locs (w ++ r)) : va_P D cl w H := fun k q hk => X.2.1 k q (by rw [List.getElem?_append_left (List.getElem?_eq_some_iff.mp hk).1]; exact hk)
theorem zx_Pr (X : zz_X D cl tys A s H locs (w ++ r)) : va_P D cl r H := fun k q hk => X.2.1 (w.length + k) q (by rw [List.getElem?_append_right (Nat.le_add_right _ _), Nat.add_sub_cancel_left]; exact hk)
theorem zx_D (X : zz_X D cl tys A s H locs (w ++ r)) : va_D A w := by
  have hl : ∀ (k : Nat) (q : Nat × va_E), w[k]? = some q → (w ++ r)[k]? = some q := fun k q hk => by rw [List.getElem?_append_left (List.getElem?_eq_some_iff.mp hk).1]; exact hk
  exact ⟨fun i j p q hi hj h => X.2.2.1.1 i j p q (hl i p hi) (hl j q hj) h, fun k q hk => X.2.2.1.2 k q (hl k q hk)⟩
theorem zx_Dr (X : zz_X D cl tys A s H locs (w ++ r)) : va_D A r := by
  have hl : ∀ (k : Nat) (q : Nat × va_E), r[k]? = some q → (w ++ r)[w.length + k]? = some q := fun k q hk => by rw [List.getElem?_append_right (Nat.le_add_right _ _), Nat.add_sub_cancel_left]; exact hk
  exact ⟨fun i j p q hi hj h => by have := X.2.2.1.1 _ _ p q (hl i p hi) (hl j q hj) h; omega, fun k q hk => X.2.2.1.2 _ q (hl k q hk)⟩
theorem zx_ne (X : zz_X D cl tys A s H locs (w ++ r)) (i j : Nat) (p q : Nat × va_E) (hi : w[i]? = some p) (hj : r[j]? = some q) : p.1 ≠ q.1 := by
  intro h
  have h1 := X.2.2.1.1 i (w.length + j) p q (by rw [List.getElem?_append_left (List.getElem?_eq_some_iff.mp hi).1]; exact hi) (by rw [List.getElem?_append_right (Nat.le_add_right _ _), Nat.add_sub_cancel_left]; exact hj) h
  have h2 := (List.getElem?_eq_some_iff.mp hi).1
  omega
theorem zx_fr (X : zz_X D cl tys A s H locs (w ++ r)) : ∀ q, va_A w H.size q → A q := by
  intro q h
  rcases h with ⟨k, e, h⟩ | h
  · exact (zx_D X).2 k (q, e) h
  · exact X.2.2.2.2 q (Nat.le_trans X.2.2.2.1.1 h)
theorem zx_swap (X : zz_X D cl tys A s H locs (w ++ r)) : zz_X D cl tys A s H locs (r ++ w) :=
  ⟨X.1, (zx_Pr X).app (zx_P X), (zx_Dr X).app (zx_D X) (fun i j p q hi hj => (zx_ne X j i q p hj hi).symm), X.2.2.2.1, X.2.2.2.2⟩
theorem zx_merge (X : zz_X D cl tys A s H locs (w ++ r)) {H1 : Heap} {locs1 : List Loc} (hk : ∀ q : Nat, q < H.size → ¬ va_A w H.size q → H1[q]? = H[q]?) (hP1 : va_P D cl w1 H1) (hD1 : va_D (va_A w H.size) w1) (hS : va_S A s.heap H1 locs1) : zz_X D cl tys A s H1 locs1 (w1 ++ r) := by
  have hr : ∀ (k : Nat) (q : Nat × va_E), r[k]? = some q → q.1 < H.size ∧ ¬ va_A w H.size q.1 := by
    intro k q hq
    have h1 := (zx_Pr X k q hq).lt
    refine ⟨h1, fun h => ?_⟩
    rcases h with ⟨i, e, h⟩ | h
    · exact zx_ne X i k (q.1, e) q h hq rfl
    · omega
  refine ⟨X.1, hP1.app ((zx_Pr X).kept (fun k q hq => hk q.1 (hr k q hq).1 (hr k q hq).2)), (hD1.weaken (fun k q _ h => zx_fr X q.1 h)).app (zx_Dr X) (fun i j p q hi hj h => ?_), hS, X.2.2.2.2⟩
  exact (hr j q hj).2 (by rw [← h]; exact hD1.2 i p hi)
end ZX
section ZY
variable {p : Program} {l : Launch} {e : Env} {R : Room} {s : State} {m : MethodId} {args : Array Value} {below : List Frame} {meth : Method} {c : Code} {H : Heap} {locs : List Loc} {Q : State → Prop}
variable {cc : ByteArray} {pc : Nat} {ls : Array Slot} {rest : List Value} {D : va_G} {A : Nat → Prop} {cl : List vw_C} {tys tys' : List (ClassId × FieldType)} {w : St → va_W} {σ : St} {r : va_W}
variable {own : String} {index nL maxL n q0 ci N : Nat} {y : MethodName} {bytes : ByteArray} {ret : Option FieldType} {rm : Room} {b : Addr} {As : List Value} {st : List Value} {T0 : u_T} {fs : List Value}
/-- a face method's call, the receiver in the world's first part: what comes back, returned or thrown -/
theorem zy_call {vd : Bool} {out : TO} {T : State} (Xs : Stand p l e R s m args below meth c T locs 0 0) (hT : T.heap = H) (hx : p.tables.exec = Jvm.exec) (hb : c.code = cc) (hml : c.maxLocals = nL) (hown : s.vm.findClass own = some m.cls) (hts : ∀ w ∈ zz_WS, w.before args s = true) (hsz : ls.size = nL) (hok : zt_ok s)
    (hstat : ∀ q : Nat, q < s.heap.size → A q → ∀ cell : Cell, s.heap[q]? = some cell → cell.vm.isStatics = false) (X : zz_X D cl tys A s H locs (w σ ++ r)) (ist : List Nat) (hty : ist.filterMap (fun i => tys[i]?) = tys')
    (hM : zF vd l D cl tys' w y (.code y bytes maxL ret :: zz_WS) rm (.ref b :: As) σ out) (k : zz_kv y bytes maxL ret n) (hl : Cond.methodLink own index y ∈ zz_WS) (hn : As.length = n) (hst : st = As.reverse ++ .ref b :: rest) (hW : (rest.map fun v => v.category).sum ≤ 8)
    (hq : (w σ)[q0]? = some (b, .inr (ci, fs))) (hc : cl[ci]? = some (y.cls, T0, N)) (hrm : rm.cells = 1 ∧ rm.slots = 6) (hR : rm.frames + 1 ≤ R.frames ∧ 8 + (maxL + 11) + rm.locals ≤ R.locals) (hcap : 1 ≤ R.cells ∧ 6 ≤ R.slots) (hdg : decode cc pc = .ok (.invokevirtual index, 3)) :
    ∃ (o : Outcome) (s₂ U : State) (L : List Loc), Stand p l e R s m args below meth c U (locs ++ L) (0 + 1) (0 + 6) ∧ U.heap = s₂.heap ∧ U.vm = s₂.vm ∧ zz_X D cl tys A s U.heap (locs ++ L) (w out.2.2 ++ r) ∧
      ((out.1 = 0 ∧ o = .returned (if vd then none else some (.int out.2.1)) ∧ (∀ tg, Steps p.tables e below (U.setTop (F0 m (pc + 3) ls ((if vd then [] else [.int out.2.1]) ++ rest))) tg → Steps p.tables e below (T.setTop (F0 m pc ls st)) tg)) ∨
       (out.1 ≠ 0 ∧ ∃ (x : Nat) (cell : Cell), U.heap[x]? = some cell ∧ cell.vm = .none ∧ s.vm.findClass (zt_ex out.1) = some cell.cls ∧ (∀ tg, Steps p.tables e below ((U.setTop (F0 m pc ls rest)).pushFrame (.throwing x)) tg → Steps p.tables e below (T.setTop (F0 m pc ls st)) tg))) := by
  obtain ⟨cellB, hcB, hoB, hclB⟩ := va_recv X.1 (zx_P X) hc hq
  obtain ⟨mk, methM, hnamed, hmethM, hstM, habM⟩ := Cond.instanceMethod_spec (hts _ k.1)
  obtain ⟨methM', cM, hmethM', hcM, hbM, hlM, -, -, -, hsigM⟩ := Cond.code_spec hnamed (hts _ k.2.2.2.1)
  cases hmethM.symm.trans hmethM'
  obtain ⟨c2, r2, m2, q1, q2, q3, q4, kP, hkP, hkPi⟩ := Cond.selects_spec (hts _ k.2.1)
  cases hclB.symm.trans q1
  cases (State.methodFound?_of_named hnamed ⟨k.2.2.2.2.1, k.2.2.2.2.2.1⟩).symm.trans q2
  cases hnamed.symm.trans q3
  have hselP : selectMethod e.platform s.vm cellB.cls mk = .method mk := by rw [Launch.admits_selectMethod Xs.admits]; exact q4
  have hlen : As.length = methM.sig.parameters.length := by
    have h2 := k.2.2.2.2.2.2
    rw [hsigM] at h2
    exact hn.trans (Option.some.inj h2).symm
  have hdg' : decode c.code pc = .ok (.invokevirtual index, 3) := by rw [hb]; exact hdg
  obtain ⟨vm₁, X₁, hstep₁⟩ := Xs.invokevirtual hx hown (hts _ hl) hnamed hmethM hstM hkP hkPi ⟨k.2.2.2.2.1, k.2.2.2.2.2.1⟩ (a := b) (cell := cellB) (by rw [hT]; exact hcB)
    (fun z h => by rw [h] at hoB; cases hoB) hselP hmethM habM hkP hkPi (g := F0 m pc ls st) rfl (argsL := As) (rest := rest) hlen hst hdg'
  obtain ⟨U, rfl⟩ : ∃ U, U = T.setVm vm₁ := ⟨_, rfl⟩
  have hUH : (T.setVm vm₁).heap = H := hT
  generalize hU : T.setVm vm₁ = U at X₁ hstep₁ hUH
  have hat : At U (F0 m pc ls rest).method c below := X₁.here
  have hnU : U.methodNamed? y = some mk := X₁.named hnamed
  have hwU : ∀ (w : Cond), w ∈ zz_WS → ∀ a : Array Value, w.before a U = true := fun w hw a => word_at X₁.warmed (zz_good w hw) (hts w hw)
  obtain ⟨methY, cY, hmY, hcY, -, hlY, -, -, -, -⟩ := Cond.code_spec hnU (hwU _ k.2.2.2.1 #[])
  obtain ⟨kY, hkY, -⟩ := className_of_methodNamed hnU
  have hinitY : kY.init = .initialized := Cond.initialized_spec (findClass_of_methodNamed hnU) hkY (hwU _ k.2.2.1 #[])
  have hvm : s.vm.Alike U.vm := X₁.warmed.alike
  have happ : (headSpec (.code y bytes maxL ret :: zz_WS) rm).appliesLoose y e.platform (U.calling (F0 m pc ls rest) mk (Value.ref b :: As).toArray) = true := by
    refine Spec.appliesLoose_calling (g := F0 m pc ls rest) hat hdg' hnU hkY hinitY (X₁.room_calling (g := F0 m pc ls rest) (R' := rm) (hsz.trans hml.symm) hmY hcY hR.1 ?_ ?_ ?_) ?_
    · rw [hlY]
      show 2 * 0 + (rest.map fun v => v.category).sum + (maxL + 11) + rm.locals ≤ R.locals
      have := hR.2
      omega
    · rw [hrm.1]; show 0 + 1 ≤ _; omega
    · rw [hrm.2]; show 0 + 6 ≤ _; omega
    · exact atoms_intro (fun w hw => by
        rcases List.mem_cons.mp hw with rfl | hw
        · exact hwU _ k.2.2.2.1 _
        · exact hwU _ hw _)
  obtain ⟨mid, hmid⟩ := hat.above
  have hfr : (U.setTop (F0 m pc ls rest)).frames = (.java (F0 m pc ls rest) :: mid) ++ below := by rw [State.frames_setTop' _ hat.top, hmid]; rfl
  have hokU : zt_ok U := hok.move hvm (fun q cell h1 h2 => by
    have hq : q < s.heap.size := (Array.getElem?_eq_some_iff.mp h1).1
    have hnA : ¬ A q := fun hA => by rw [hstat q hq hA cell h1] at h2; cases h2
    rw [hUH, X.2.2.2.1.2.1 q hq hnA]; exact h1)
  have hpre : zt_pre D cl tys' (w σ) (Value.ref b :: As) H.size (Value.ref b :: As).toArray (U.calling (F0 m pc ls rest) mk (Value.ref b :: As).toArray) := by
    refine ⟨rfl, ?_, ?_, ?_, (zx_D X).weaken (fun _ _ _ _ => trivial), ?_⟩
    · show U.heap.size = H.size; rw [hUH]
    · show va_P D cl (w σ) U.heap; rw [hUH]; exact zx_P X
    · exact va_K.moved (u := s) hvm (X.1.sub ist hty)
    · exact hokU.move (Vm.Alike.refl U.vm) (fun q cell h1 _ => h1)
  obtain ⟨o, s₂, hsteps, -, hend, hqq⟩ := Steps.callFree (hM H.size) p X₁.admits X₁.cas X₁.clock (acts := []) hfr happ hpre trivial
  rw [State.frames_setTop' _ hat.top] at hend
  have hqq : zq_G vd D cl tys' w (va_A (w σ) H.size) out (Value.ref b :: As).toArray (U.calling (F0 m pc ls rest) mk (Value.ref b :: As).toArray) o s₂ ∧ ∃ L, ((U.calling (F0 m pc ls rest) mk (Value.ref b :: As).toArray).WarmedH s₂.vm ∧ (U.calling (F0 m pc ls rest) mk (Value.ref b :: As).toArray).sameButNew ({ s₂ with vm := (U.calling (F0 m pc ls rest) mk (Value.ref b :: As).toArray).vm } : State) L 1 6) ∧ ∀ q ∈ L, va_A (w σ) H.size q.base := hqq
  obtain ⟨⟨hcase, hP1, hK1, hD1, hF1⟩, L, ⟨hW₂, e2, q2', q3', q4', q5', q6'⟩, hL⟩ := hqq
  have e3 : s₂ = ({ (U.calling (F0 m pc ls rest) mk (Value.ref b :: As).toArray).setFrames s₂.frames with heap := s₂.heap, slotsUsed := s₂.slotsUsed } : State).setVm s₂.vm := by
    have h9 : s₂ = ({ s₂ with vm := (U.calling (F0 m pc ls rest) mk (Value.ref b :: As).toArray).vm } : State).setVm s₂.vm := rfl
    rw [e2] at h9
    exact h9
  have hW' : U.WarmedH s₂.vm := hW₂
  obtain ⟨g₀, hg0⟩ := Option.isSome_iff_exists.mp hat.top
  obtain ⟨rr, hr⟩ := State.topJava?_eq_some.mp hg0
  have hr' : (({ U with heap := s₂.heap, slotsUsed := s₂.slotsUsed } : State).setVm s₂.vm).frames = .java g₀ :: rr := hr
  have hsame : U.sameButNew ({ U with heap := s₂.heap, slotsUsed := s₂.slotsUsed } : State) L 1 6 := by
    refine ⟨?_, q2', q3', q4', q5', q6'⟩
    obtain ⟨t, ht, -⟩ := State.frames_cons hr
    show ({ U with heap := s₂.heap, slotsUsed := s₂.slotsUsed } : State) = { U.setFrames U.frames with heap := s₂.heap, slotsUsed := s₂.slotsUsed }
    rw [State.setFrames_self ht]
  have XB : Stand p l e R s m args below meth c (({ U with heap := s₂.heap, slotsUsed := s₂.slotsUsed } : State).setVm s₂.vm) (locs ++ L) (0 + 1) (0 + 6) :=
    ⟨X₁.admits, X₁.cas, X₁.clock, X₁.frames, X₁.room, X₁.hears, X₁.method, X₁.code, (X₁.here.setHeapUsed s₂.heap s₂.slotsUsed).setVm hW'.alike, X₁.tail, State.WarmedH.trans X₁.warmed hW', X₁.limits, X₁.bytes, X₁.same.trans (hsame.setVm s.vm)⟩
  have hkept : ∀ q : Nat, q < H.size → ¬ va_A (w σ) H.size q → s₂.heap[q]? = H[q]? := fun q h1 h2 => by
    have h3 := hF1.2 q (by show q < U.heap.size; rw [hUH]; exact h1) h2
    rw [h3]; show U.heap[q]? = H[q]?; rw [hUH]
  have hSz : va_S A s.heap s₂.heap (locs ++ L) := by
    refine ⟨Nat.le_trans X.2.2.2.1.1 (by have := hF1.1; rw [show (U.calling (F0 m pc ls rest) mk (Value.ref b :: As).toArray).heap = U.heap from rfl, hUH] at this; exact this), fun q h1 h2 => ?_, fun x hx => ?_⟩
    · rw [hkept q (Nat.lt_of_lt_of_le h1 X.2.2.2.1.1) (fun h => h2 (zx_fr X q h))]
      exact X.2.2.2.1.2.1 q h1 h2
    · rcases List.mem_append.mp hx with hx | hx
      · exact X.2.2.2.1.2.2 x hx
      · exact zx_fr X _ (hL x hx)
  refine ⟨o, s₂, _, L, XB, rfl, rfl, zx_merge X hkept hP1 hD1 hSz, ?_⟩
  rcases hcase with ⟨h0, rfl⟩ | ⟨h0, x, cell, rfl, hcx, hvx, hfx⟩
  · refine Or.inl ⟨h0, rfl, fun tg hst2 => hstep₁ _ fun acts => ?_⟩
    rw [doInvoke_state]
    refine hsteps.trans ?_
    obtain ⟨c₂, i₂, len₂, hc₂, hd₂, hf₂⟩ := hend
    have hcc : c₂ = c := by
      have h1 : s₂.code? (F0 m pc ls rest).method = U.code? (F0 m pc ls rest).method := by rw [State.code?_eq, State.code?_eq, hW'.alike.method?]
      exact Option.some.inj (hc₂.symm.trans (h1.trans hat.code))
    subst hcc
    have hlen2 : len₂ = 3 := by rw [hdg'] at hd₂; cases hd₂; rfl
    subst hlen2
    have hs₂ : s₂ = (({ U with heap := s₂.heap, slotsUsed := s₂.slotsUsed } : State).setVm s₂.vm).setTop (F0 m (pc + 3) ls ((if vd then [] else [.int out.2.1]) ++ rest)) := by
      refine e3.trans ?_
      rw [hf₂, State.calling_eq hat.top, State.setFrames_setFrames, State.setTop_of_frames _ hr', hr]
      cases vd <;> rfl
    rw [hs₂]
    exact hst2
  · refine Or.inr ⟨h0, x, cell, hcx, hvx, by have h9 := hfx; rw [(State.WarmedH.trans X₁.warmed hW').alike.findClass] at h9; exact h9, fun tg hst2 => hstep₁ _ fun acts => ?_⟩
    rw [doInvoke_state]
    refine hsteps.trans ?_
    have hf₂ : s₂.frames = .throwing x :: .java (F0 m pc ls rest) :: U.frames.tail := hend
    have hs₂ : s₂ = ((({ U with heap := s₂.heap, slotsUsed := s₂.slotsUsed } : State).setVm s₂.vm).setTop (F0 m pc ls rest)).pushFrame (.throwing x) := by
      refine e3.trans ?_
      rw [hf₂, State.calling_eq hat.top, State.setFrames_setFrames, State.pushFrame, State.frames_setTop _ hr', State.setTop_of_frames _ hr', State.setFrames_setFrames, hr]
      rfl
    rw [hs₂]
    exact hst2
end ZY
