/-! THE LAW: calls over parts of its world -/
section ZLW
variable {p : Program} {l : Launch} {e : Env} {R : Room} {s : State} {m : MethodId} {args : Array Value} {below : List Frame} {meth : Method} {c : Code} {H : Heap} {locs : List Loc} {cells slots : Nat} {Q : State → Prop}
variable {cc : ByteArray} {pc : Nat} {ls : Array Slot} {rest : List Value} {D : va_G} {A : Nat → Prop} {cl : List vw_C} {tys tys' : List (ClassId × FieldType)} {r : va_W}
variable {own : String} {index nL maxL n q0 ci N : Nat} {y : MethodName} {bytes : ByteArray} {ret : Option FieldType} {rm : Room} {b : Addr} {As : List Value} {st : List Value} {T : u_T} {fs : List Value}
theorem zr_lI {w : St → va_W} {σ : St} {out : Int32 × St} (hx : p.tables.exec = Jvm.exec) (hb : c.code = cc) (hml : c.maxLocals = nL) (hown : s.vm.findClass own = some m.cls) (hts : ∀ w ∈ zz_WS, w.before args s = true) (hsz : ls.size = nL) (X : zz_X D cl tys A s H locs (w σ ++ r)) (ist : List Nat) (hty : ist.filterMap (fun i => tys[i]?) = tys')
    (hM : zI l D cl tys' w y (.code y bytes maxL ret :: zz_WS) rm (.ref b :: As) σ out) (k : zz_kv y bytes maxL ret n) (hl : Cond.methodLink own index y ∈ zz_WS) (hn : As.length = n) (hst : st = As.reverse ++ .ref b :: rest) (hW : (rest.map fun v => v.category).sum ≤ 8)
    (hq : (w σ)[q0]? = some (b, .inr (ci, fs))) (hc : cl[ci]? = some (y.cls, T, N)) (hrm : rm.cells = 0 ∧ rm.slots = 0) (hR : rm.frames + 1 ≤ R.frames ∧ 8 + (maxL + 11) + rm.locals ≤ R.locals) (hcs : cells ≤ R.cells ∧ slots ≤ R.slots) (hdg : decode cc pc = .ok (.invokevirtual index, 3))
    (kk : ∀ (H1 : Heap) (locs1 : List Loc), zz_X D cl tys A s H1 locs1 (w out.2 ++ r) → W p l e R s m args below meth c H1 locs1 cells slots Q (F0 m (pc + 3) ls (.int out.1 :: rest))) : W p l e R s m args below meth c H locs cells slots Q (F0 m pc ls st) := by
  refine va_calli (va_runV (As := As) (rest := rest) ⟨hx, hb, hml, hown, hts⟩ (hM H.size) (cwV n hts (zz_gv k hl) rfl hrm.1 hrm.2 ⟨rfl, k.2.2.2.2⟩ hR) ⟨zz_blind, va_recv X.1 (zx_P X) hc hq, fun U hU hW => ⟨rfl, by rw [hU], by rw [hU]; exact zx_P X, va_K.moved hW.alike (X.1.sub ist hty), (zx_D X).weaken (fun _ _ _ _ => trivial)⟩⟩ rfl hn hsz hst (lv_room hW) hdg hcs) X.2.2.2.1 (fun q _ h => zx_fr X q h) (zx_fr X) (fun rr u t H1 locs1 ht hvm hw hB hz1 hk1 hS => ?_)
  obtain ⟨rfl, rfl⟩ := hw
  obtain ⟨hP1, hK1, hD1⟩ := hB
  rw [ht] at hP1
  exact kk H1 locs1 (zx_merge X hk1 hP1 hD1 hS)
theorem zr_lV {w : St → va_W} {σ : St} {out : St} (hx : p.tables.exec = Jvm.exec) (hb : c.code = cc) (hml : c.maxLocals = nL) (hown : s.vm.findClass own = some m.cls) (hts : ∀ w ∈ zz_WS, w.before args s = true) (hsz : ls.size = nL) (X : zz_X D cl tys A s H locs (w σ ++ r)) (ist : List Nat) (hty : ist.filterMap (fun i => tys[i]?) = tys')
    (hM : zV l D cl tys' w y (.code y bytes maxL ret :: zz_WS) rm (.ref b :: As) σ out) (k : zz_kv y bytes maxL ret n) (hl : Cond.methodLink own index y ∈ zz_WS) (hn : As.length = n) (hst : st = As.reverse ++ .ref b :: rest) (hW : (rest.map fun v => v.category).sum ≤ 8)
    (hq : (w σ)[q0]? = some (b, .inr (ci, fs))) (hc : cl[ci]? = some (y.cls, T, N)) (hrm : rm.cells = 0 ∧ rm.slots = 0) (hR : rm.frames + 1 ≤ R.frames ∧ 8 + (maxL + 11) + rm.locals ≤ R.locals) (hcs : cells ≤ R.cells ∧ slots ≤ R.slots) (hdg : decode cc pc = .ok (.invokevirtual index, 3))
    (kk : ∀ (H1 : Heap) (locs1 : List Loc), zz_X D cl tys A s H1 locs1 (w out ++ r) → W p l e R s m args below meth c H1 locs1 cells slots Q (F0 m (pc + 3) ls rest)) : W p l e R s m args below meth c H locs cells slots Q (F0 m pc ls st) := by
  refine va_callv (va_runV (As := As) (rest := rest) ⟨hx, hb, hml, hown, hts⟩ (hM H.size) (cwV n hts (zz_gv k hl) rfl hrm.1 hrm.2 ⟨rfl, k.2.2.2.2⟩ hR) ⟨zz_blind, va_recv X.1 (zx_P X) hc hq, fun U hU hW => ⟨rfl, by rw [hU], by rw [hU]; exact zx_P X, va_K.moved hW.alike (X.1.sub ist hty), (zx_D X).weaken (fun _ _ _ _ => trivial)⟩⟩ rfl hn hsz hst (lv_room hW) hdg hcs) X.2.2.2.1 (fun q _ h => zx_fr X q h) (zx_fr X) (fun u t H1 locs1 ht hvm hw hB hz1 hk1 hS => ?_)
  obtain rfl := hw
  obtain ⟨hP1, hK1, hD1⟩ := hB
  rw [ht] at hP1
  exact kk H1 locs1 (zx_merge X hk1 hP1 hD1 hS)
/-- what is the same at every call of a helper -/
def zz_kh (y : MethodName) (bytes : ByteArray) (maxL : Nat) (hh : List (Nat × Nat × Nat × Nat)) (n : Nat) : Prop :=
  Cond.static y ∈ zz_WS ∧ Cond.initialized y.cls ∈ zz_WS ∧ Cond.codeWith y bytes maxL (some .int) hh ∈ zz_WS ∧ (y.cls ≠ "java/lang/invoke/MethodHandle" ∧ y.cls ≠ "java/lang/invoke/VarHandle") ∧ (parseMethodDescriptor y.desc).map (fun d => d.parameters.length) = some n
theorem zr_lh {S : Type} {w : S → va_W} {u : S} {out : Int32 × S} {hh : List (Nat × Nat × Nat × Nat)} (hx : p.tables.exec = Jvm.exec) (hb : c.code = cc) (hml : c.maxLocals = nL) (hown : s.vm.findClass own = some m.cls) (hts : ∀ w ∈ zz_WS, w.before args s = true) (hsz : ls.size = nL) (hok : zt_ok s) (hAn : ∀ q : Nat, q < s.heap.size → ¬ A q) (X : zz_X D cl tys A s H locs (w u ++ r))
    (hM : zH l D cl tys w y (.codeWith y bytes maxL (some .int) hh :: zz_WS) rm As u out) (k : zz_kh y bytes maxL hh n) (hl : Cond.methodLink own index y ∈ zz_WS) (hn : As.length = n) (hst : st = As.reverse ++ rest) (hW : (rest.map fun v => v.category).sum ≤ 8)
    (hrm : rm.cells = 1 ∧ rm.slots = 6) (hR : rm.frames + 1 ≤ R.frames ∧ 8 + (maxL + 11) + rm.locals ≤ R.locals) (hcs : cells + 1 ≤ R.cells ∧ slots + 6 ≤ R.slots) (hdg : decode cc pc = .ok (.invokestatic index, 3))
    (kk : ∀ (H1 : Heap) (locs1 : List Loc), zz_X D cl tys A s H1 locs1 (w out.2 ++ r) → W p l e R s m args below meth c H1 locs1 (cells + 1) (slots + 6) Q (F0 m (pc + 3) ls (.int out.1 :: rest))) : W p l e R s m args below meth c H locs cells slots Q (F0 m pc ls st) := by
  have hbl : FrameBlind (zt_pre D cl tys (w u) As H.size) := by
    intro a U g mk q
    obtain ⟨q0, q1, qP, qK, qD, qo⟩ := q
    exact ⟨q0, q1, qP, va_K.moved (u := U) (U := U.calling g mk a) (Vm.Alike.refl U.vm) qK, qD, qo.move (Vm.Alike.refl U.vm) (fun q cell h1 _ => h1)⟩
  have hK : Back l R p e below s args y 3 8 (PreOf R 1 6 (zt_pre D cl tys (w u) As H.size)) (PostOf (zq_H D cl tys w (va_A (w u) H.size) out) 1 6 (va_A (w u) H.size)) :=
    va_backW (hh := hh) (bytes := bytes) (maxL := maxL) (ret := some .int) (hM H.size) hbl hrm.1 hrm.2 hR.1 hR.2 (fun w hw a' U hWm => by
      rcases List.mem_cons.mp hw with rfl | hw
      · exact word_at hWm (zz_good _ k.2.2.1) (hts _ k.2.2.1)
      · exact word_at hWm (zz_good _ hw) (hts _ hw)) List.mem_cons_self (fun a' U hWm => word_at hWm (zz_good _ k.2.1) (hts _ k.2.1))
  intro T0 hT Xs
  have hdg' : decode c.code pc = .ok (.invokestatic index, 3) := by rw [hb]; exact hdg
  obtain ⟨m9, methM, cM, hnamed, hmethM, hcM, -, -, -, -, -, hsigM⟩ := Cond.codeWith_spec (hts _ k.2.2.1)
  have hstatic : methM.isStatic = true := Cond.static_spec hnamed hmethM (hts _ k.1)
  obtain ⟨kP, hkP, -⟩ := className_of_methodNamed hnamed
  have hinitP : kP.init = .initialized := Cond.initialized_spec (findClass_of_methodNamed hnamed) hkP (hts _ k.2.1)
  have hlen : As.length = methM.sig.parameters.length := by
    have h2 := k.2.2.2.2
    rw [hsigM] at h2
    exact hn.trans (Option.some.inj h2).symm
  obtain ⟨vm₁, X₁, hstep₁⟩ := Xs.invokestatic hx hown (hts _ hl) hnamed hmethM hstatic hkP hinitP k.2.2.2.1 (g := F0 m pc ls st) rfl (argsL := As) (rest := rest) hlen hst hdg'
  have hpre : PreOf R 1 6 (zt_pre D cl tys (w u) As H.size) ⟨T0.setVm vm₁, locs, cells, slots⟩ As.toArray := by
    refine ⟨hcs.1, hcs.2, rfl, ?_, ?_, ?_, (zx_D X).weaken (fun _ _ _ _ => trivial), ?_⟩
    · show T0.heap.size = H.size; rw [hT]
    · show va_P D cl (w u) T0.heap; rw [hT]; exact zx_P X
    · exact va_K.moved (u := s) X₁.warmed.alike X.1
    · exact hok.move X₁.warmed.alike (fun q cell h1 _ => by
        have hq : q < s.heap.size := (Array.getElem?_eq_some_iff.mp h1).1
        show T0.heap[q]? = some cell
        rw [hT, X.2.2.2.1.2.1 q hq (hAn q hq)]; exact h1)
  obtain ⟨v, ⟨U', l2, c2, s2⟩, X', ⟨g', mk, t, L, e1, e2, hq, h1, hL, h2, h3⟩, hsteps⟩ := hK m meth c ⟨T0.setVm vm₁, locs, cells, slots⟩ (F0 m pc ls rest) (.invokestatic index) m9 As.toArray X₁ rfl (hsz.trans hml.symm) hdg' (lv_room hW) (X₁.named hnamed) hpre
  dsimp only [Pt.U, Pt.locs, Pt.cells, Pt.slots] at X' e1 e2 h1 h2 h3 hsteps hq
  subst h1; subst h2; subst h3
  obtain ⟨⟨rr, u', hv, ⟨rfl, rfl⟩, hP1, hK1, hD1⟩, hF1⟩ := hq
  have hv : v = some (.int out.1) := by cases hv; rfl
  subst hv
  have hkept : ∀ q : Nat, q < H.size → ¬ va_A (w u) H.size q → U'.heap[q]? = H[q]? := fun q a1 a2 => by
    have a3 := hF1.2 q (by show q < T0.heap.size; rw [hT]; exact a1) a2
    rw [e1, a3]; show T0.heap[q]? = H[q]?; rw [hT]
  have hS1 : va_S A s.heap U'.heap (locs ++ L) := by
    refine ⟨Nat.le_trans X.2.2.2.1.1 ?_, fun q a1 a2 => ?_, fun x hx => ?_⟩
    · have a3 := hF1.1
      rw [e1]
      have a4 : T0.heap.size ≤ t.heap.size := a3
      rw [hT] at a4
      exact a4
    · rw [hkept q (Nat.lt_of_lt_of_le a1 X.2.2.2.1.1) (fun h => a2 (zx_fr X q h))]
      exact X.2.2.2.1.2.1 q a1 a2
    · rcases List.mem_append.mp hx with hx | hx
      · exact X.2.2.2.1.2.2 x hx
      · exact zx_fr X _ (hL x hx)
  obtain ⟨tt, a1, b1⟩ := kk U'.heap (locs ++ L) (zx_merge X hkept (by rw [e1]; exact hP1) hD1 hS1) U' rfl X'
  exact ⟨tt, hstep₁ _ fun acts => by rw [doInvoke_state]; exact hsteps.trans a1, b1⟩
end ZLW
