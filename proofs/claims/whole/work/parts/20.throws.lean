/-! THROWN OUTCOMES: the launch has no stack traces; a walk may be based anew on the state where it stands; 'new E(); athrow'; a call that may throw, and its catch -/
theorem zt_tr {l : Launch} {e : Env} (ha : l.admits e) (hfl : l.flags = flags0) : e.platform.stackTraces = false := by
  rw [ha.platform]
  show l.stackTraces = false
  unfold Launch.stackTraces
  rw [hfl]
  decide +kernel
def zt_IAE : String := "java/lang/IllegalArgumentException"
def zt_ISE : String := "java/lang/IllegalStateException"
def zt_IOB : String := "java/lang/IndexOutOfBoundsException"
def zt_NSE : String := "java/util/NoSuchElementException"
def zt_ups : List String := ["java/lang/RuntimeException", "java/lang/Exception"]
/-- the words that a throw needs and that are no word of zz_WS -/
def zt_NG : List Cond := [.declares (Bundle.init0 "java/lang/RuntimeException"), .declares (Bundle.init0 "java/lang/Exception"), .declares (Bundle.init0 Bundle.tN),
  .castable zt_IAE zt_IAE, .castable zt_ISE zt_ISE, .castable zt_IOB zt_IOB, .castable zt_NSE zt_NSE,
  .laysStatic Bundle.tN "UNASSIGNED_STACK" Bundle.steD, .laysStatic Bundle.tN "SUPPRESSED_SENTINEL" Bundle.listD,
  .isRef (.static Bundle.tN "UNASSIGNED_STACK" Bundle.steD), .isRef (.static Bundle.tN "SUPPRESSED_SENTINEL" Bundle.listD),
  .not (.castable zt_ISE zt_IAE), .not (.castable zt_IOB zt_IAE), .not (.castable zt_IOB zt_ISE), .not (.castable zt_NSE zt_IAE)]
def zt_ok (U : State) : Prop := ∀ w ∈ zt_NG, ∀ a : Array Value, w.before a U = true
theorem zt_tab {a a' : Array Value} {s U : State} (hvm : s.vm.Alike U.vm) {w : Cond} (h1 : w.onTables = true) (h2 : ∀ vm' : Vm, s.vm.Alike vm' → w.before a (s.setVm vm') = w.before a s) (h : w.before a s = true) : w.before a' U = true := by
  have e1 := Cond.onTables_vm (A := a) (A' := a') (U := s) (U' := U) U.vm w h1
  rw [State.setVm_self] at e1
  rw [← e1, h2 _ hvm]
  exact h
theorem zt_lays {C n d : String} {a a' : Array Value} {s U : State} (hvm : s.vm.Alike U.vm) (hh : ∀ (q : Nat) (c : Cell), s.heap[q]? = some c → c.vm.isStatics = true → U.heap[q]? = some c) (h : (Cond.laysStatic C n d).before a s = true) : (Cond.laysStatic C n d).before a' U = true := by
  obtain ⟨c, k, i, f, b, cell, hc, hi, hst, ha, hcell, hs, hcls, hlt, hty⟩ := Cond.laysStatic_spec h
  obtain ⟨k', hi0, he⟩ := State.fieldFound?_setVm hvm hi
  have hi' : U.fieldFound? C n d = some (c, k', i, f) := hi0
  have hc' : U.vm.findClass C = some c := by rw [hvm.findClass]; exact hc
  have ha' : k'.statics = some b := by rw [he]; exact ha
  have hty' : k'.staticTypes[f.slot]? = some f.type := by rw [he]; exact hty
  simp [Cond.before, Cond.holds, Cond.value, hc', hi', ha', hh b cell hcell hs, hst, hs, hcls, hlt, hty']
theorem zt_isRef {C n d : String} {a a' : Array Value} {s U : State} (hvm : s.vm.Alike U.vm) (hh : ∀ (q : Nat) (c : Cell), s.heap[q]? = some c → c.vm.isStatics = true → U.heap[q]? = some c) (hl : (Cond.laysStatic C n d).before a s = true) (h : (Cond.isRef (.static C n d)).before a s = true) : (Cond.isRef (.static C n d)).before a' U = true := by
  obtain ⟨c, k, i, f, b, cell, hc, hi, hst, ha, hcell, hs, hcls, hlt, hty⟩ := Cond.laysStatic_spec hl
  obtain ⟨k', hi0, he⟩ := State.fieldFound?_setVm hvm hi
  have hi' : U.fieldFound? C n d = some (c, k', i, f) := hi0
  have ha' : k'.statics = some b := by rw [he]; exact ha
  have e1 : (Term.static C n d).eval a s none [] s = cell.slots[f.slot]? := by simp [Term.eval, State.fieldNamed?, hi, hst, ha, hcell, hs]
  have e2 : (Term.static C n d).eval a' U none [] U = cell.slots[f.slot]? := by simp [Term.eval, State.fieldNamed?, hi', hst, ha', hh b cell hcell hs, hs]
  simp only [Cond.before, Cond.holds, Cond.value, e1] at h
  simp only [Cond.before, Cond.holds, Cond.value, e2]
  exact h
theorem zt_nc {x y : String} {a a' : Array Value} {s U : State} (hvm : s.vm.Alike U.vm) (h : (Cond.not (.castable x y)).before a s = true) : (Cond.not (.castable x y)).before a' U = true := by
  simp only [Cond.before, Cond.holds, Cond.value, hvm.findClass, hvm.assignable] at h ⊢
  exact h
theorem zt_ok.move {s U : State} (hvm : s.vm.Alike U.vm) (hh : ∀ (q : Nat) (c : Cell), s.heap[q]? = some c → c.vm.isStatics = true → U.heap[q]? = some c) (h : zt_ok s) : zt_ok U := by
  have hd : ∀ x : MethodName, Cond.declares x ∈ zt_NG → ∀ a : Array Value, (Cond.declares x).before a U = true := fun x hx a => zt_tab (a := #[]) hvm rfl (fun vm' hv => Cond.declares_setVm hv x) (h _ hx #[])
  have hc : ∀ x y : String, Cond.castable x y ∈ zt_NG → ∀ a : Array Value, (Cond.castable x y).before a U = true := fun x y hx a => zt_tab (a := #[]) hvm rfl (fun vm' hv => Cond.castable_setVm hv x y) (h _ hx #[])
  have hl : ∀ x y z : String, Cond.laysStatic x y z ∈ zt_NG → ∀ a : Array Value, (Cond.laysStatic x y z).before a U = true := fun x y z hx a => zt_lays (a := #[]) hvm hh (h _ hx #[])
  have hr : ∀ x y z : String, Cond.laysStatic x y z ∈ zt_NG → Cond.isRef (.static x y z) ∈ zt_NG → ∀ a : Array Value, (Cond.isRef (.static x y z)).before a U = true := fun x y z h1 h2 a => zt_isRef (a := #[]) hvm hh (h _ h1 #[]) (h _ h2 #[])
  have hn : ∀ x y : String, Cond.not (.castable x y) ∈ zt_NG → ∀ a : Array Value, (Cond.not (.castable x y)).before a U = true := fun x y hx a => zt_nc (a := #[]) hvm (h _ hx #[])
  intro w hw
  have hw0 := hw
  simp only [zt_NG, List.mem_cons, List.not_mem_nil, or_false] at hw
  rcases hw with rfl | rfl | rfl | rfl | rfl | rfl | rfl | rfl | rfl | rfl | rfl | rfl | rfl | rfl | rfl
  · exact hd _ hw0
  · exact hd _ hw0
  · exact hd _ hw0
  · exact hc _ _ hw0
  · exact hc _ _ hw0
  · exact hc _ _ hw0
  · exact hc _ _ hw0
  · exact hl _ _ _ hw0
  · exact hl _ _ _ hw0
  · exact hr _ _ _ (by simp [zt_NG]) hw0
  · exact hr _ _ _ (by simp [zt_NG]) hw0
  · exact hn _ _ hw0
  · exact hn _ _ hw0
  · exact hn _ _ hw0
  · exact hn _ _ hw0
section ZT
variable {p : Program} {l : Launch} {e : Env} {R : Room} {s : State} {m : MethodId} {args : Array Value} {below : List Frame} {meth : Method} {c : Code} {T : State} {H : Heap} {locs : List Loc} {cells slots : Nat} {Q : State → Prop}
/-- THE WALK BASED ANEW on the state where it stands -/
theorem zt_rebase (X : Stand p l e R s m args below meth c T locs cells slots) (hc : cells ≤ R.cells) (hs : slots ≤ R.slots) :
    Stand p l e { R with cells := R.cells - cells, slots := R.slots - slots } (T.setFrames (.invoking m args :: below)) m args below meth c T [] 0 0 := by
  obtain ⟨g₀, hfr⟩ := X.frames_eq
  have hcur : T.cur < T.threads.size := State.cur_lt_of_frames hfr
  obtain ⟨t, ht, -⟩ := State.frames_cons hfr
  have hF : (T.setFrames (.invoking m args :: below)).frames = .invoking m args :: below := State.frames_setFrames _ hcur
  have hm : T.vm.method? m = some meth := X.method'
  have hroom := X.room
  have hlo : s.localsInUse = stackWeight below + vmFrameWords + (c.maxLocals + 11) := State.localsInUse_invoking X.frames X.method X.code
  have hlo' : (T.setFrames (.invoking m args :: below)).localsInUse = stackWeight below + vmFrameWords + (c.maxLocals + 11) := State.localsInUse_invoking hF hm X.code
  refine ⟨X.admits, X.cas, X.clock, hF, ?_, ?_, hm, X.code, X.here, X.tail, State.WarmedH.refl _, (State.stackLimits_setFrames _ _ _).symm, (State.stackBytes_setFrames _ _).symm, ?_⟩
  · simp only [State.hasRoom, Bool.and_eq_true, decide_eq_true_eq] at hroom ⊢
    obtain ⟨⟨⟨⟨r1, r2, r3, r4, r5, r6⟩, r7⟩, r8⟩, r9⟩ := hroom
    have hz := X.heapSize
    have hu := X.used
    rw [hlo] at r1 r4 r5
    rw [X.frames] at r2 r3
    rw [hlo', hF, State.stackLimits_setFrames, State.stackBytes_setFrames, X.limits, X.bytes]
    refine ⟨⟨⟨⟨r1, r2, r3, r4, r5, r6⟩, ?_⟩, ?_⟩, X.book⟩
    · show T.heap.size + (R.cells - cells) ≤ _
      omega
    · show T.slotsUsed + (R.slots - slots) ≤ _
      omega
  · have h := X.hears
    have hcode : ∀ x : MethodId, (T.setFrames (.invoking m args :: below)).code? x = s.code? x := fun x => by
      rw [State.code?_eq, State.code?_eq]
      show (T.vm.method? x).bind _ = _
      rw [X.warmed.alike.method?]
    have hmm : (T.setFrames (.invoking m args :: below)).vm.method? m = s.vm.method? m := by rw [X.method]; exact hm
    cases below with
    | nil => simp only [State.hears, hmm] at h ⊢; exact h
    | cons f r =>
      cases f with
      | java g => simp only [State.hears, hcode] at h ⊢; exact h
      | native g => rfl
      | proc g => rfl
      | _ => simp only [State.hears, hmm] at h ⊢; exact h
  · have e1 : (T.setFrames (.invoking m args :: below)).setFrames T.frames = T := by rw [State.setFrames_setFrames, State.setFrames_self ht]
    obtain ⟨t2, ht2, -⟩ := State.frames_cons hF
    have h := (State.sameButNew.refl (T.setFrames (.invoking m args :: below)) ht2).setFrames T.frames (State.cur_lt_of_frames hF)
    rw [e1] at h
    exact h
end ZT
/-- the end of a method that returned or threw -/
def zMG (below : List Frame) (Qc : Array Value → State → Outcome → State → Prop) (a : Array Value) (s : State) (mc ms : Nat) (free : Addr → Prop) : State → Prop := fun t =>
  ∃ o, t.status = .running ∧ Ended t below o ∧ Qc a s o t ∧ ∃ L, (s.WarmedH t.vm ∧ s.sameButNew ({ t with vm := s.vm } : State) L mc ms) ∧ ∀ q ∈ L, free q.base
/-- a contract whose outcome may be a throw -/
def zG (l : Launch) (y : MethodName) (ws : List Cond) (rm : Room) (Pc : Array Value → State → Prop) (Qc : Array Value → State → Outcome → State → Prop) (mc ms : Nat) (free : Addr → Prop) : Prop :=
  MetFree l y (headSpec ws rm) Pc (fun _ _ _ _ _ => True) (fun a st o t => Qc a st o t ∧ ∃ L, (st.WarmedH t.vm ∧ st.sameButNew ({ t with vm := st.vm } : State) L mc ms) ∧ ∀ q ∈ L, free q.base)
theorem zG.ofW {l : Launch} {y : MethodName} {ws ws' : List Cond} {rm : Room} {Pc : Array Value → State → Prop} {Qc : Array Value → State → Outcome → State → Prop} {mc ms : Nat} {free : Addr → Prop} {cc : ByteArray} {maxL : Nat} {ret : Option FieldType}
    (hy : plainName y.cls = true) (hw : ws = Cond.code y cc maxL ret :: ws')
    (body : ∀ p e s m args below meth c s₁, BodyLoose p l y (headSpec ws rm) cc maxL ret e s m args below meth c s₁ → c.maxLocals = maxL → c.exceptionTable.isEmpty = true → Pc args s →
      W p l e (headSpec ws rm).room s m args below meth c s.heap [] 0 0 (zMG below Qc args s mc ms free) (entryFrame m args maxL)) : zG l y ws rm Pc Qc mc ms free := by
  refine MetFree.of_bodyS (code := cc) (maxLocals := maxL) (ret := ret) hy ?_ ?_
  · intro args s m h hn
    obtain ⟨meth, c, h1, h2, h3, h4, h5, h6, -, -⟩ := Cond.code_spec hn (atoms_spec (ws := ws) h _ (by rw [hw]; exact List.mem_cons_self))
    exact ⟨meth, c, h1, h2, h3, h4, h5, h6⟩
  · intro p e s m args below meth c s₁ B hml hP _
    have hh0 : s₁.heap = s.heap := by rw [B.state]; rfl
    have hne := B.noHandlers (atoms_spec (ws := ws) B.pre _ (by rw [hw]; exact List.mem_cons_self))
    obtain ⟨t, a1, o, b1, b2, b3⟩ := body p e s m args below meth c s₁ B hml hne hP s₁ hh0 (Stand.of_body B)
    exact ⟨t, o, a1, b1, b2, ⟨b3.1, b3.2⟩⟩
section ZT2
variable {p : Program} {l : Launch} {e : Env} {R : Room} {s : State} {m : MethodId} {args : Array Value} {below : List Frame} {meth : Method} {c : Code} {T : State} {H : Heap} {locs : List Loc} {cells slots : Nat} {Q : State → Prop}
theorem zW_mono {Q' : State → Prop} {g : JFrame} (h : ∀ t, Q t → Q' t) (k : W p l e R s m args below meth c H locs cells slots Q g) : W p l e R s m args below meth c H locs cells slots Q' g := by
  intro T hT X
  obtain ⟨t, a, b⟩ := k T hT X
  exact ⟨t, a, h t b⟩
theorem zW_rebase {g : JFrame} (hc : cells ≤ R.cells) (hs : slots ≤ R.slots)
    (k : ∀ s' : State, s'.heap = H → s.WarmedH s'.vm → (∀ (t : State) (L : List Loc) (c2 n2 : Nat), s'.WarmedH t.vm → s'.sameButNew ({ t with vm := s'.vm } : State) L c2 n2 → s.WarmedH t.vm ∧ s.sameButNew ({ t with vm := s.vm } : State) (locs ++ L) (cells + c2) (slots + n2)) →
      W p l e { R with cells := R.cells - cells, slots := R.slots - slots } s' m args below meth c H [] 0 0 Q g) : W p l e R s m args below meth c H locs cells slots Q g := by
  intro T hT X
  refine k (T.setFrames (.invoking m args :: below)) hT X.warmed ?_ T hT (zt_rebase X hc hs)
  intro t L c2 n2 hW h
  have hW' : T.WarmedH t.vm := hW
  have h' : T.sameButNew ({ t with vm := T.vm } : State) L c2 n2 := by
    refine ⟨?_, h.2⟩
    have h1 := h.1
    rw [State.setFrames_setFrames] at h1
    exact h1
  exact ⟨State.WarmedH.trans X.warmed hW', X.same.trans (h'.setVm s.vm)⟩
theorem zt_eq {s t : State} {k n : Nat} (h : s.sameButNew t [] k n) {q : Nat} (hq : q < s.heap.size) : t.heap[q]? = s.heap[q]? := by
  obtain ⟨c', h1, h2, h3, h4⟩ := h.2.2.2.2.2 q s.heap[q] (by simp [hq])
  rw [h1, Array.getElem?_eq_getElem hq]
  have e1 : c'.slots = s.heap[q].slots := by
    apply Array.ext_getElem?
    intro i
    exact h4 i (by simp)
  rw [h2, e1]
end ZT2
/-- the classes of exceptions by number: 1 IllegalArgument, 2 IllegalState, 3 IndexOutOfBounds, 4 NoSuchElement -/
def zt_ex (k : Nat) : String := match k with
  | 1 => zt_IAE
  | 2 => zt_ISE
  | 3 => zt_IOB
  | _ => zt_NSE
abbrev TO : Type := Nat × Int32 × St
/-- what a face method leaves: a return (0), or a throw (k) -/
def zq_G (vd : Bool) (D : va_G) (cl : List vw_C) (tys : List (ClassId × FieldType)) (w : St → va_W) (A : Nat → Prop) (out : TO) : Array Value → State → Outcome → State → Prop := fun _ st oc t =>
  ((out.1 = 0 ∧ oc = .returned (if vd then none else some (.int out.2.1))) ∨ (out.1 ≠ 0 ∧ ∃ (x : Nat) (cell : Cell), oc = .threw x ∧ t.heap[x]? = some cell ∧ cell.vm = .none ∧ t.vm.findClass (zt_ex out.1) = some cell.cls)) ∧
  va_P D cl (w out.2.2) t.heap ∧ va_K D cl tys t ∧ va_D A (w out.2.2) ∧ va_F A st t
def zt_pre (D : va_G) (cl : List vw_C) (tys : List (ClassId × FieldType)) (ws : va_W) (as : List Value) (sz : Nat) : Array Value → State → Prop :=
  va_Pc as (fun U => U.heap.size = sz ∧ va_P D cl ws U.heap ∧ va_K D cl tys U ∧ va_D (fun _ => True) ws ∧ zt_ok U)
def zF (vd : Bool) (l : Launch) (D : va_G) (cl : List vw_C) (tys : List (ClassId × FieldType)) (w : St → va_W) (y : MethodName) (ws : List Cond) (rm : Room) (as : List Value) (σ : St) (out : TO) : Prop :=
  ∀ sz : Nat, zG l y ws rm (zt_pre D cl tys (w σ) as sz) (zq_G vd D cl tys w (va_A (w σ) sz) out) 1 6 (va_A (w σ) sz)
section ZT3
variable {p : Program} {l : Launch} {e : Env} {R : Room} {s : State} {m : MethodId} {args : Array Value} {below : List Frame} {meth : Method} {c : Code} {H : Heap} {locs : List Loc} {Q : State → Prop}
variable {cc : ByteArray} {pc : Nat} {ls : Array Slot} {rest : List Value} {D : va_G} {A : Nat → Prop} {cl : List vw_C} {tys : List (ClassId × FieldType)} {w : St → va_W} {σ : St}
theorem zF_of {vd : Bool} {y : MethodName} {maxL : Nat} {ret : Option FieldType} {rm : Room} {as : List Value} {out : TO} (hy : plainName y.cls = true) (hn : (lg_sl as).length ≤ maxL)
    (body : ∀ (p : Program) (e : Env) (s : State) (m : MethodId) (below : List Frame) (meth : Method) (c : Code) (A : Nat → Prop) (ls : Array Slot), p.tables.exec = Jvm.exec → c.code = cc → c.maxLocals = maxL → s.vm.findClass y.cls = some m.cls → (∀ w ∈ zz_WS, w.before as.toArray s = true) → meth.sig.returnType = ret → meth.locks = false → c.exceptionTable.isEmpty = true → zt_ok s → (∀ q : Nat, q < s.heap.size → A q → ∀ cell : Cell, s.heap[q]? = some cell → cell.vm.isStatics = false) →
      zz_X D cl tys A s s.heap [] (w σ) → lv_has ls maxL (lv_args 0 as) → W p l e rm s m as.toArray below meth c s.heap [] 0 0 (zMG below (zq_G vd D cl tys w A out) as.toArray s 1 6 A) (F0 m 0 ls [])) : zF vd l D cl tys w y (.code y cc maxL ret :: zz_WS) rm as σ out := by
  intro sz
  refine zG.ofW (cc := cc) (maxL := maxL) (ret := ret) hy rfl ?_
  intro p e s m args below meth c s₁ B hml hne hv
  obtain ⟨rfl, hsz, hP, hK, hD0, hok⟩ := hv
  have hts := atoms_spec (ws := .code y cc maxL ret :: zz_WS) B.pre
  subst hsz
  have hl := lv_entry as (n := maxL) hn
  rw [lg_entry_eq]
  refine body p e s m below meth c _ _ B.exec B.bytes hml (findClass_of_methodNamed B.named) (fun w hw => hts w (List.mem_cons_of_mem _ hw)) B.returns B.notSynchronized hne hok ?_ ⟨hK, hP, hD0.self, va_S.rf, fun q h => Or.inr h⟩ hl
  intro q hq hA cell hcell
  rcases hA with ⟨k, e, h⟩ | h
  · have h1 := hP k (q, e) h
    cases e with
    | inl a =>
      have h2 : s.heap[q]? = some (vp_cell a.1 a.2) := h1
      rw [hcell] at h2
      obtain rfl := Option.some.inj h2
      obtain ⟨ca, n, f⟩ := a
      rcases f with f | f | f | f | f <;> rfl
    | inr o =>
      obtain ⟨r, -, c2, h2, -, h3, -⟩ := h1
      rw [hcell] at h2
      obtain rfl := Option.some.inj h2
      rw [h3]; rfl
  · omega
theorem zr_gi (hx : p.tables.exec = Jvm.exec) (hb : c.code = cc) (hr : meth.sig.returnType = some .int) (hlocks : meth.locks = false) (X : zz_X D cl tys A s H locs (w σ)) {v : Int32} {out : TO} (ho : (0, v, σ) = out) (hdg : decode cc pc = .ok (.ireturn, 1)) :
    W p l e R s m args below meth c H locs 0 0 (zMG below (zq_G false D cl tys w A out) args s 1 6 A) (F0 m pc ls [.int v]) := by
  subst ho
  refine W.widen (k := 1) (n := 6) (Nat.zero_le _) (Nat.zero_le _) ?_
  refine zW_mono (Q := MQ below (zq_G false D cl tys w A (0, v, σ)) args s 1 6 A) ?_ ?_
  · rintro t ⟨o, h1, h2, h3, L, h4, h5⟩
    exact ⟨o, h1, h2, h3, L, h4.2, h5⟩
  · exact W.iret (v := v) hx hb hr (fun t ht hW => ⟨Or.inl ⟨rfl, rfl⟩, by rw [ht]; exact X.2.1, va_K.moved hW.alike X.1, X.2.2.1, X.2.2.2.1.F ht⟩) X.2.2.2.1.2.2 hdg
theorem zr_gv (hx : p.tables.exec = Jvm.exec) (hb : c.code = cc) (hr : meth.sig.returnType = none) (hlocks : meth.locks = false) (X : zz_X D cl tys A s H locs (w σ)) {out : TO} (ho : (0, 0, σ) = out) (hdg : decode cc pc = .ok (.return_, 1)) :
    W p l e R s m args below meth c H locs 0 0 (zMG below (zq_G true D cl tys w A out) args s 1 6 A) (F0 m pc ls []) := by
  subst ho
  refine W.widen (k := 1) (n := 6) (Nat.zero_le _) (Nat.zero_le _) ?_
  refine zW_mono (Q := MQ below (zq_G true D cl tys w A (0, 0, σ)) args s 1 6 A) ?_ ?_
  · rintro t ⟨o, h1, h2, h3, L, h4, h5⟩
    exact ⟨o, h1, h2, h3, L, h4.2, h5⟩
  · exact W.vret hx hb hr (fun t ht hW => ⟨Or.inl ⟨rfl, rfl⟩, by rw [ht]; exact X.2.1, va_K.moved hW.alike X.1, X.2.2.1, X.2.2.2.1.F ht⟩) X.2.2.2.1.2.2 hdg
/-- the words of 'throw new E()' -/
def zt_kw (own : String) (ic : Nat) (E : String) : Prop := Bundle.fit E = true ∧ (Bundle.ownAtoms0 own ic E zt_ups).all (fun w => (decide (w ∈ lw_tbl) && goodWord w) || decide (w ∈ zt_NG)) = true
/-- throw new E(): four instructions -/
theorem zr_thr {vd : Bool} {k : Nat} (hk0 : k ≠ 0) (hx : p.tables.exec = Jvm.exec) (hb : c.code = cc) {nL : Nat} (hml : c.maxLocals = nL) (hsz : ls.size = nL) {own : String} (hown : s.vm.findClass own = some m.cls) (hts : ∀ w ∈ zz_WS, w.before args s = true) (hlocks : meth.locks = false) (hne : c.exceptionTable.isEmpty = true) (hok : zt_ok s)
    (hstat : ∀ q : Nat, q < s.heap.size → A q → ∀ cell : Cell, s.heap[q]? = some cell → cell.vm.isStatics = false) (hfl : l.flags = flags0)
    (X : zz_X D cl tys A s H locs (w σ)) {idx ic : Nat} (hcl : Cond.classLink own idx (zt_ex k) ∈ zz_WS) (hins : Cond.instantiable (zt_ex k) 6 ∈ zz_WS) (hini : Cond.initialized (zt_ex k) ∈ zz_WS) (hkw : zt_kw own ic (zt_ex k))
    (hR : 5 < R.frames ∧ 100 ≤ R.locals ∧ 1 ≤ R.cells ∧ 6 ≤ R.slots) (d0 : decode cc pc = .ok (.new idx, 3)) (d3 : decode cc (pc + 3) = .ok (.dup, 1)) (d4 : decode cc (pc + 4) = .ok (.invokespecial ic, 3)) (d7 : decode cc (pc + 7) = .ok (.athrow, 1)) {out : TO} (ho : (k, 0, σ) = out) :
    W p l e R s m args below meth c H locs 0 0 (zMG below (zq_G vd D cl tys w A out) args s 1 6 A) (F0 m pc ls []) := by
  subst ho
  refine zW_rebase (Nat.zero_le _) (Nat.zero_le _) (fun s' hs' hw' htrans => ?_)
  have hvm : s.vm.Alike s'.vm := hw'.alike
  have hts' : ∀ w ∈ zz_WS, w.before args s' = true := fun w hw => word_at hw' (zz_good w hw) (hts w hw)
  have hok' : zt_ok s' := hok.move hvm (fun q cell h1 h2 => by
    have hq : q < s.heap.size := (Array.getElem?_eq_some_iff.mp h1).1
    have hnA : ¬ A q := fun hA => by rw [hstat q hq hA cell h1] at h2; cases h2
    rw [hs', X.2.2.2.1.2.1 q hq hnA]; exact h1)
  have hown' : s'.vm.findClass own = some m.cls := by rw [hvm.findClass]; exact hown
  obtain ⟨cC, kC0, hfc, hkC0, -, -, -, -⟩ := Cond.instantiable_spec (hts' _ hins)
  refine W.newcK (C := zt_ex k) (n := 6) hx hb hown' (hts' _ hcl) (hts' _ hins) (hts' _ hini) rfl d0 (by show 0 + 1 ≤ R.cells - 0; omega) (by show 0 + 6 ≤ R.slots - 0; omega) hfc rfl (fun H' kC hkC hcell hsize hold => ?_)
  refine lv_dup hx hb d3 rfl ?_
  intro T hT Xs
  have hatoms : ∀ a ∈ Bundle.ownAtoms0 own ic (zt_ex k) zt_ups, a.before args s' = true := by
    intro a ha
    have h1 := List.all_eq_true.mp hkw.2 a ha
    rcases Bool.or_eq_true_iff.mp h1 with h1 | h1
    · simp only [Bool.and_eq_true, decide_eq_true_eq] at h1
      exact hts' a (List.mem_filter.mpr h1)
    · exact hok' a (of_decide_eq_true h1) args
  have hempty : ∀ x ∈ c.exceptionTable.toList, covers x (pc + 7) = false := by
    intro x hx
    have h1 : c.exceptionTable = #[] := Array.isEmpty_iff.mp hne
    rw [h1] at hx
    cases hx
  have hcell' : T.heap[H.size]? = some (freshCell cC kC) := by rw [hT]; exact hcell
  obtain ⟨U, hst, hrun, hend, hW, hsame, ce, hce, hownc⟩ := Xs.ctorThrow0 (a := H.size) (g := F0 m (pc + 4) ls [.ref H.size, .ref H.size]) (rest := []) hx (zt_tr Xs.admits hfl) hown' hkw.1 (by decide) hatoms (by intro x h; cases h) hfc hkC hcell' (Nat.le_of_eq (by rw [hs'])) rfl (hsz.trans hml.symm) rfl rfl rfl (by rw [hb]; exact d4) (by rw [hb]; exact d7) hempty (by show 2 + 3 < R.frames; omega) (by show 2 * 0 + _ + _ ≤ R.locals; simp [Value.category, zt_ups]; omega) hlocks
  have hUq : ∀ q : Nat, q < H.size → U.heap[q]? = H[q]? := fun q hq => by
    have h1 := zt_eq hsame (q := q) (by rw [hs']; exact hq)
    rw [hs'] at h1
    exact h1
  obtain ⟨hWs, hsm⟩ := htrans U [] 1 6 hW hsame
  refine ⟨U, hst, .threw _, hrun, hend, ?_, locs ++ [], ⟨hWs, by simpa using hsm⟩, fun q hq => X.2.2.2.1.2.2 q (by simpa using hq)⟩
  refine ⟨Or.inr ⟨hk0, _, ce, rfl, hce, hownc.vm, ?_⟩, ?_, ?_, X.2.2.1, ?_⟩
  · rw [hW.alike.findClass]; exact hownc.cls
  · exact X.2.1.kept (fun k q hk => hUq q.1 (X.2.1 k q hk).lt)
  · exact va_K.moved hWs.alike X.1
  · refine ⟨?_, fun q hq hA => ?_⟩
    · have h1 : s'.heap.size ≤ U.heap.size := hsame.2.1
      rw [hs'] at h1
      exact Nat.le_trans X.2.2.2.1.1 h1
    · rw [hUq q (Nat.lt_of_lt_of_le hq X.2.2.2.1.1)]
      exact X.2.2.2.1.2.1 q hq hA
end ZT3
