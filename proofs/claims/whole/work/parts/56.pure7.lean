/-! noting, answering, calculating -/
def FrS (σ σ' : St) : Prop := ∀ v, (5 ≤ v ∧ v ≤ 12 ∨ 29 ≤ v) → σ' v = σ v
def FrM (τ τ' : St) : Prop := ∀ v, (v ≤ 4 ∨ v = 19 ∨ 24 ≤ v) → τ' v = τ v
theorem FrS.refl (σ : St) : FrS σ σ := fun _ _ => rfl
theorem FrM.refl (τ : St) : FrM τ τ := fun _ _ => rfl
theorem FrS.trans {a b c : St} (h : FrS a b) (h' : FrS b c) : FrS a c := fun v hv => (h' v hv).trans (h v hv)
theorem FrM.trans {a b c : St} (h : FrM a b) (h' : FrM b c) : FrM a c := fun v hv => (h' v hv).trans (h v hv)
theorem FrS.put {a b : St} (h : FrS a b) {v i : Nat} {x : Int32} (hv : ¬ (5 ≤ v ∧ v ≤ 12 ∨ 29 ≤ v)) : FrS a (zz_put b v i x) := fun w hw => by
  rw [px_at, if_neg (fun e => hv (by rw [← e]; exact hw)), h w hw]
theorem FrM.put {a b : St} (h : FrM a b) {v i : Nat} {x : Int32} (hv : ¬ (v ≤ 4 ∨ v = 19 ∨ 24 ≤ v)) : FrM a (zz_put b v i x) := fun w hw => by
  rw [px_at, if_neg (fun e => hv (by rw [← e]; exact hw)), h w hw]
theorem note_loop (kx : St → Int32 → Int32 → Int32 → Option St) (kx' : St → Int32 → Int32 → Option St) (σ τ : St) {s : Nat} (hs : s ≤ 24) (h13 : σ 13 = τ 15) (h14 : σ 14 = τ 16) (hS : σ 17 0 = nI s) (hT : τ 23 0 = nI s) (x1 x3 : Int32) :
    ∀ (f k : Nat), k ≤ s → s - k < f → (∃ i, i < s ∧ zf_Fi_note_L3 kx f σ x1 (τ 24 0) x3 (nI k) = some (zz_put σ 16 i (σ 16 i + 1)) ∧ zf_Mo_note_L2 kx' f τ x1 x3 (nI k) = some (zz_put τ 18 i (τ 18 i + 1))) ∨
      (zf_Fi_note_L3 kx f σ x1 (τ 24 0) x3 (nI k) = kx σ x1 (τ 24 0) x3 ∧ zf_Mo_note_L2 kx' f τ x1 x3 (nI k) = kx' τ x1 x3) := by
  intro f
  induction f with
  | zero => intro k h1 h2; omega
  | succ f ih =>
    intro k hk hf
    rw [zf_Fi_note_L3, zf_Mo_note_L2, hS, hT]
    by_cases h : k = s
    · subst h
      rw [if_pos (nI_le (Nat.le_refl _) (by omega)), if_pos (nI_le (Nat.le_refl _) (by omega))]
      exact Or.inr ⟨rfl, rfl⟩
    · have hk24 : k < 24 := by omega
      simp only [if_neg (nI_ge (show k < s by omega) (by omega)), px_ck hk24 (show 24 < 2 ^ 31 by omega), px_cl (show k < 2 ^ 31 by omega), nI_1, h13, h14]
      by_cases h1 : τ 15 k = x1
      · by_cases h2 : τ 16 k = τ 24 0
        · rw [if_pos h1, if_pos h2, if_pos h1, if_pos h2]
          exact Or.inl ⟨k, by omega, rfl, rfl⟩
        · rw [if_pos h1, if_neg h2, if_pos h1, if_neg h2]
          exact ih (k + 1) (by omega) (by omega)
      · rw [if_neg h1, if_neg h1]
        exact ih (k + 1) (by omega) (by omega)
theorem sim_note {m : Nat} {σ τ : St} (hC : Cor m σ τ) (x1 x3 : Int32) : ∃ σ' τ' : St, zf_Fi_note σ x1 (τ 24 0) x3 = some σ' ∧ zf_Mo_note τ x1 x3 = some τ' ∧ Cor m σ' τ' ∧ FrS σ σ' ∧ FrM τ τ' := by
  obtain ⟨r1, r2, r3, r4, ⟨⟨f1, f2, f3, f4, f5⟩, s, hs, hS⟩, r6⟩ := hC
  have hS' : σ 17 0 = nI s := by rw [f5, hS]
  unfold zf_Fi_note zf_Mo_note
  rcases note_loop _ _ σ τ hs f1 f2 hS' hS x1 x3 300 0 (by omega) (by omega) with ⟨i, hi, e1, e2⟩ | ⟨e1, e2⟩
  · refine ⟨_, _, e1, e2, ?_, (FrS.refl σ).put (by omega), (FrM.refl τ).put (by omega)⟩
    refine ⟨by simpa [px_at] using r1, by simpa [px_at] using r2, by simpa [px_at] using r3, by simpa [px_at] using r4, ?_, by simpa [px_at] using r6⟩
    refine ⟨⟨by simp [px_at, f1], by simp [px_at, f2], by simp [px_at, f3], by simp [px_at, f4], by simp [px_at, f5]⟩, s, hs, by simp [px_at, hS]⟩
  · by_cases h : s = 24
    · refine ⟨σ, τ, ?_, ?_, ⟨r1, r2, r3, r4, ⟨⟨f1, f2, f3, f4, f5⟩, s, hs, hS⟩, r6⟩, FrS.refl σ, FrM.refl τ⟩
      · rw [show (0 : Int32) = nI 0 from rfl, e1, hS', h, if_pos (by decide)]
      · rw [show (0 : Int32) = nI 0 from rfl, e2, hS, h, if_pos (by decide)]
    · have a1 : ¬ (24 : Int32) ≤ nI s := nI_ge (b := 24) (by omega) (by omega)
      have a2 : ¬ nI s = 24 := fun e => h ((nI_eq (b := 24) (by omega) (by omega)).mp e)
      refine ⟨zz_put (zz_put (zz_put (zz_put (zz_put σ 13 s x1) 14 s (τ 24 0)) 15 s x3) 16 s 1) 17 0 (nI (s + 1)), zz_put (zz_put (zz_put (zz_put (zz_put τ 15 s x1) 16 s (τ 24 0)) 17 s x3) 18 s 1) 23 0 (nI (s + 1)), ?_, ?_, ?_, ?_, ?_⟩
      · rw [show (0 : Int32) = nI 0 from rfl, e1, hS', if_neg a1]
        simp [px_at, hS', px_ck (show s < 24 by omega), px_cl (show s < 2 ^ 31 by omega), nI_1]
      · rw [show (0 : Int32) = nI 0 from rfl, e2, hS, if_neg a2]
        simp [px_at, hS, px_ck (show s < 24 by omega), px_cl (show s < 2 ^ 31 by omega), nI_1]
      · refine ⟨by simpa [px_at] using r1, by simpa [px_at] using r2, by simpa [px_at] using r3, by simpa [px_at] using r4, ?_, by simpa [px_at] using r6⟩
        refine ⟨⟨by simp [px_at, f1], by simp [px_at, f2], by simp [px_at, f3], by simp [px_at, f4], by simp [px_at, px_upd]⟩, s + 1, by omega, by simp [px_at, px_upd]⟩
      · exact (((((FrS.refl σ).put (by omega)).put (by omega)).put (by omega)).put (by omega)).put (by omega)
      · exact (((((FrM.refl τ).put (by omega)).put (by omega)).put (by omega)).put (by omega)).put (by omega)
/-- what the instruction at p says -/
theorem ins {m : Nat} {σ τ : St} (hC : Cor m σ τ) {p : Nat} (hp : p < 32) (h29 : σ 29 0 = nI p) :
    ∃ d a b : Nat, d ≤ 7 ∧ a ≤ 7 ∧ b ≤ 7 ∧ τ 1 p = nI d ∧ τ 2 p = nI a ∧ τ 3 p = nI b ∧ zf_Pr_d σ (σ 29 0) = some (nI d) ∧ zf_Pr_a σ (σ 29 0) = some (nI a) ∧ zf_Pr_b σ (σ 29 0) = some (nI b) ∧
      zf_Pr_n σ (σ 29 0) = some (τ 4 p) ∧ zf_Pr_op σ (σ 29 0) = some (τ 0 p) := by
  obtain ⟨⟨⟨p0, p1, p2, p3, p4⟩, pr⟩, -⟩ := hC
  obtain ⟨-, ⟨d, hd, e1⟩, ⟨a, ha, e2⟩, ⟨b, hb, e3⟩⟩ := pr p hp
  refine ⟨d, a, b, hd, ha, hb, e1, e2, e3, ?_, ?_, ?_, ?_, ?_⟩
  · unfold zf_Pr_d; rw [h29, px_ck hp (by omega), px_cl (by omega), p1, e1]
  · unfold zf_Pr_a; rw [h29, px_ck hp (by omega), px_cl (by omega), p2, e2]
  · unfold zf_Pr_b; rw [h29, px_ck hp (by omega), px_cl (by omega), p3, e3]
  · unfold zf_Pr_n; rw [h29, px_ck hp (by omega), px_cl (by omega), p4]
  · unfold zf_Pr_op; rw [h29, px_ck hp (by omega), px_cl (by omega), p0]
theorem rg {m : Nat} {σ τ : St} (hC : Cor m σ τ) {a : Nat} (ha : a ≤ 7) : ∃ k : Nat, k ≤ 15 ∧ τ 9 a = nI k ∧ zf_Re_value σ (nI a) = some (τ 8 a) ∧ zf_Re_known σ (nI a) = some (nI k) ∧ zf_Re_isKnown σ (nI a) = some (if τ 9 a = 15 then 1 else 0) := by
  obtain ⟨-, -, ⟨⟨q1, q2⟩, q3, -⟩, -⟩ := hC
  obtain ⟨k, hk, e⟩ := q3 a
  refine ⟨k, hk, e, ?_, ?_, ?_⟩
  · unfold zf_Re_value; rw [px_ck (by omega) (by omega), px_cl (by omega), q1]
  · unfold zf_Re_known; rw [px_ck (by omega) (by omega), px_cl (by omega), q2, e]
  · unfold zf_Re_isKnown; rw [px_ck (by omega) (by omega), px_cl (by omega), q2, px_k0, px_k1]
    split <;> rfl
theorem sim_ans {m : Nat} {σ τ : St} (hC : Cor m σ τ) {p : Nat} (hp : p < 32) (h29 : σ 29 0 = nI p) (x : Int32) {k : Nat} (hk : k ≤ 15) :
    ∃ σ' τ' : St, zf_Ma_answer σ x (nI k) = some σ' ∧ zf_Mo_put τ (τ 1 p) x (nI k) = some τ' ∧ Cor m σ' τ' ∧ FrS σ σ' ∧ FrM τ τ' := by
  obtain ⟨d, a, b, hd, ha, hb, e1, e2, e3, i1, i2, i3, i4, i5⟩ := ins hC hp h29
  unfold zf_Ma_answer zf_Mo_put zf_Re_put
  rw [i1, e1, Option.bind_some]
  by_cases h0 : nI d = 0
  · rw [if_pos h0, if_pos h0]
    exact ⟨σ, τ, rfl, rfl, hC, FrS.refl σ, FrM.refl τ⟩
  · have hd0 : d ≠ 0 := fun e => h0 (by rw [e]; rfl)
    rw [if_neg h0, if_neg h0]
    simp only [px_ck (show d < 8 by omega) (show 8 < 2 ^ 31 by omega), px_cl (show d < 2 ^ 31 by omega), Option.bind_some]
    refine ⟨_, _, rfl, rfl, ?_, ((FrS.refl σ).put (by omega)).put (by omega), ((FrM.refl τ).put (by omega)).put (by omega)⟩
    obtain ⟨r1, r2, ⟨⟨q1, q2⟩, q3, q4, q5⟩, r4, r5, r6⟩ := hC
    refine ⟨by simpa [px_at] using r1, by simpa [px_at] using r2, ?_, by simpa [px_at] using r4, by simpa [px_at] using r5, by simpa [px_at] using r6⟩
    refine ⟨⟨by simp [px_at, q1], by simp [px_at, q2]⟩, fun i => ?_, by simp [px_at, px_upd, hd0.symm, q4], by simp [px_at, px_upd, hd0.symm, q5]⟩
    by_cases hi : i = d
    · exact ⟨k, hk, by simp [px_at, px_upd, hi]⟩
    · obtain ⟨k', hk', e⟩ := q3 i
      exact ⟨k', hk', by simp [px_at, px_upd, hi, e]⟩
theorem bm_and : ∀ a : Nat, a < 16 → ∀ b : Nat, b < 16 → nI a &&& nI b = nI (a &&& b) ∧ a &&& b ≤ 15 := by decide
theorem bm_or : ∀ a : Nat, a < 16 → ∀ b : Nat, b < 16 → nI a ||| nI b = nI (a ||| b) ∧ a ||| b ≤ 15 := by decide
theorem bm_low : ∀ a : Nat, a < 16 → ∃ r : Nat, r < 16 ∧ zf_Kn_unspoiled (nI a) = some (nI r) ∧ zf_Mo_lowest (nI a) = some (nI r) := by decide
theorem bm_by (kx : Int32 → Option Int32) : ∀ (f : Nat) (v w acc i : Int32), zf_Kn_bytesThatAre_L4 kx f w v acc i = zf_Mo_bytes_L4 kx f v w acc i := by
  intro f
  induction f with
  | zero => intro v w acc i; rfl
  | succ f ih =>
    intro v w acc i
    rw [zf_Kn_bytesThatAre_L4, zf_Mo_bytes_L4, ih, ih]
theorem bm_sh : ∀ k : Nat, k < 4 → (1 : Int32) <<< (nI k &&& 31) = nI (2 ^ k) ∧ 2 ^ k < 16 := by decide
theorem bm_bl (v w : Int32) : ∀ (f k a : Nat), k ≤ 4 → 4 - k < f → a < 16 → ∃ r : Nat, r < 16 ∧ zf_Mo_bytes_L4 (fun y => some y) f v w (nI a) (nI k) = some (nI r) := by
  intro f
  induction f with
  | zero => intro k a h1 h2; omega
  | succ f ih =>
    intro k a hk hf ha
    rw [zf_Mo_bytes_L4]
    by_cases h : k = 4
    · subst h
      rw [if_pos (by decide)]
      exact ⟨a, ha, rfl⟩
    · rw [if_neg (show ¬ (4 : Int32) ≤ nI k from nI_ge (b := 4) (by omega) (by omega)), (bm_sh k (by omega)).1, (bm_or a ha _ (bm_sh k (by omega)).2).1, nI_1]
      split
      · exact ih (k + 1) _ (by omega) (by omega) (by have := (bm_or a ha _ (bm_sh k (by omega)).2).2; omega)
      · exact ih (k + 1) _ (by omega) (by omega) ha
theorem bm_bytes (v w : Int32) : ∃ r : Nat, r < 16 ∧ zf_Kn_bytesThatAre w v = some (nI r) ∧ zf_Mo_bytes v w = some (nI r) := by
  obtain ⟨r, hr, e⟩ := bm_bl v w 300 0 0 (by omega) (by omega) (by omega)
  have e' : zf_Mo_bytes v w = some (nI r) := e
  refine ⟨r, hr, ?_, e'⟩
  rw [← e']
  exact bm_by _ _ _ _ _ _
/-- the instruction's registers: what both read -/
theorem sim_calc {m : Nat} {σ τ : St} (hC : Cor m σ τ) {p o : Nat} (hp : p < 32) (h29 : σ 29 0 = nI p) (h1 : 1 ≤ o) (h8 : o ≤ 8) :
    ∃ σ' τ' : St, zf_Ma_calculate σ (nI o) = some σ' ∧ zf_Mo_compute τ (nI o) (nI p) = some τ' ∧ Cor m σ' τ' ∧ FrS σ σ' ∧ FrM τ τ' := by
  obtain ⟨d, a, b, hd, ha, hb, e1, e2, e3, i1, i2, i3, i4, i5⟩ := ins hC hp h29
  obtain ⟨ka, hka, ea, va, wa, -⟩ := rg hC ha
  obtain ⟨kb, hkb, eb, vb, wb, -⟩ := rg hC hb
  have c := bm_and ka (by omega) kb (by omega)
  have hA : ∀ x {k : Nat}, k ≤ 15 → ∃ σ' τ' : St, zf_Ma_answer σ x (nI k) = some σ' ∧ zf_Mo_put τ (τ 1 p) x (nI k) = some τ' ∧ Cor m σ' τ' ∧ FrS σ σ' ∧ FrM τ τ' := fun x k hk => sim_ans hC hp h29 x hk
  simp only [zf_Ma_calculate, zf_Mo_compute, i2, i3, i4, va, vb, wa, wb, Option.bind_some, px_ck hp (show 32 < 2 ^ 31 by omega), px_cl (show p < 2 ^ 31 by omega), e2, e3, px_ck (show a < 8 by omega) (show 8 < 2 ^ 31 by omega), px_ck (show b < 8 by omega) (show 8 < 2 ^ 31 by omega), px_cl (show a < 2 ^ 31 by omega), px_cl (show b < 2 ^ 31 by omega), ea, eb]
  have ho : o = 1 ∨ o = 2 ∨ o = 3 ∨ o = 4 ∨ o = 5 ∨ o = 6 ∨ o = 7 ∨ o = 8 := by omega
  have n1 : (nI 1 : Int32) = 1 := rfl
  have n2 : (nI 2 : Int32) = 2 := rfl
  have n3 : (nI 3 : Int32) = 3 := rfl
  have n4 : (nI 4 : Int32) = 4 := rfl
  have n5 : (nI 5 : Int32) = 5 := rfl
  have n6 : (nI 6 : Int32) = 6 := rfl
  have n7 : (nI 7 : Int32) = 7 := rfl
  have n8 : (nI 8 : Int32) = 8 := rfl
  rcases ho with rfl | rfl | rfl | rfl | rfl | rfl | rfl | rfl
  · obtain ⟨σ', τ', g1, g2, g3⟩ := hA (τ 4 p) (k := 15) (by omega)
    refine ⟨σ', τ', ?_, ?_, g3⟩
    · have g1' : zf_Ma_answer σ (τ 4 p) 15 = some σ' := g1
      simp [n1, g1']
    · rw [n1, if_pos rfl, show (15 : Int32) = nI 15 from rfl, g2]
      simp [zf_Mo_compute_b81, zf_Mo_compute_b109, zf_Mo_compute_b133, zf_Mo_compute_b157, zf_Mo_compute_b181, zf_Mo_compute_b222, zf_Mo_compute_b267]
  · obtain ⟨r, hr, l1, l2⟩ := bm_low ka (by omega)
    obtain ⟨σ', τ', g1, g2, g3⟩ := hA (τ 8 a + τ 4 p) (k := r) (by omega)
    refine ⟨σ', τ', ?_, ?_, g3⟩
    · simp [n2, l1, g1]
    · simp [n2, zf_Mo_compute_b81, zf_Mo_compute_b109, zf_Mo_compute_b133, zf_Mo_compute_b157, zf_Mo_compute_b181, zf_Mo_compute_b222, zf_Mo_compute_b267, l2, px_ck hp, px_cl (show p < 2 ^ 31 by omega), g2]
  · obtain ⟨r, hr, l1, l2⟩ := bm_low (ka &&& kb) (by omega)
    obtain ⟨σ', τ', g1, g2, g3⟩ := hA (τ 8 a + τ 8 b) (k := r) (by omega)
    refine ⟨σ', τ', ?_, ?_, g3⟩
    · simp [n3, c.1, l1, g1]
    · simp [n3, c.1, zf_Mo_compute_b81, zf_Mo_compute_b109, zf_Mo_compute_b133, zf_Mo_compute_b157, zf_Mo_compute_b181, zf_Mo_compute_b222, zf_Mo_compute_b267, l2, px_ck hp, px_cl (show p < 2 ^ 31 by omega), g2]
  · obtain ⟨r, hr, l1, l2⟩ := bm_low (ka &&& kb) (by omega)
    obtain ⟨σ', τ', g1, g2, g3⟩ := hA (τ 8 a - τ 8 b) (k := r) (by omega)
    refine ⟨σ', τ', ?_, ?_, g3⟩
    · simp [n4, c.1, l1, g1]
    · simp [n4, c.1, zf_Mo_compute_b81, zf_Mo_compute_b109, zf_Mo_compute_b133, zf_Mo_compute_b157, zf_Mo_compute_b181, zf_Mo_compute_b222, zf_Mo_compute_b267, l2, px_ck hp, px_cl (show p < 2 ^ 31 by omega), g2]
  · obtain ⟨r, hr, l1, l2⟩ := bm_low (ka &&& kb) (by omega)
    obtain ⟨σ', τ', g1, g2, g3⟩ := hA (τ 8 a * τ 8 b) (k := r) (by omega)
    refine ⟨σ', τ', ?_, ?_, g3⟩
    · simp [n5, c.1, l1, g1]
    · simp [n5, c.1, zf_Mo_compute_b81, zf_Mo_compute_b109, zf_Mo_compute_b133, zf_Mo_compute_b157, zf_Mo_compute_b181, zf_Mo_compute_b222, zf_Mo_compute_b267, l2, px_ck hp, px_cl (show p < 2 ^ 31 by omega), g2]
  · obtain ⟨ra, hra, l1, l2⟩ := bm_bytes (τ 8 a) 0
    obtain ⟨rb, hrb, l3, l4⟩ := bm_bytes (τ 8 b) 0
    have c1 := bm_and ka (by omega) ra hra
    have c2 := bm_and kb (by omega) rb hrb
    have c3 := bm_or (ka &&& kb) (by omega) (ka &&& ra) (by omega)
    have c4 := bm_or (ka &&& kb ||| ka &&& ra) (by omega) (kb &&& rb) (by omega)
    obtain ⟨σ', τ', g1, g2, g3⟩ := hA (τ 8 a &&& τ 8 b) c4.2
    refine ⟨σ', τ', ?_, ?_, g3⟩
    · simp [n6, zf_Kn_decided, l1, l3, c.1, c1.1, c2.1, c3.1, c4.1, g1]
    · simp [n6, c.1, zf_Mo_compute_b81, zf_Mo_compute_b109, zf_Mo_compute_b133, zf_Mo_compute_b157, zf_Mo_compute_b181, zf_Mo_compute_b222, zf_Mo_compute_b267, l2, l4, c1.1, c2.1, c3.1, c4.1, px_ck hp, px_cl (show p < 2 ^ 31 by omega), g2]
  · obtain ⟨ra, hra, l1, l2⟩ := bm_bytes (τ 8 a) 255
    obtain ⟨rb, hrb, l3, l4⟩ := bm_bytes (τ 8 b) 255
    have c1 := bm_and ka (by omega) ra hra
    have c2 := bm_and kb (by omega) rb hrb
    have c3 := bm_or (ka &&& kb) (by omega) (ka &&& ra) (by omega)
    have c4 := bm_or (ka &&& kb ||| ka &&& ra) (by omega) (kb &&& rb) (by omega)
    obtain ⟨σ', τ', g1, g2, g3⟩ := hA (τ 8 a ||| τ 8 b) c4.2
    refine ⟨σ', τ', ?_, ?_, g3⟩
    · simp [n7, zf_Kn_decided, l1, l3, c.1, c1.1, c2.1, c3.1, c4.1, g1]
    · simp [n7, c.1, zf_Mo_compute_b81, zf_Mo_compute_b109, zf_Mo_compute_b133, zf_Mo_compute_b157, zf_Mo_compute_b181, zf_Mo_compute_b222, zf_Mo_compute_b267, l2, l4, c1.1, c2.1, c3.1, c4.1, px_ck hp, px_cl (show p < 2 ^ 31 by omega), g2]
  · obtain ⟨σ', τ', g1, g2, g3⟩ := hA (τ 8 a ^^^ τ 8 b) c.2
    refine ⟨σ', τ', ?_, ?_, g3⟩
    · simp [n8, c.1, g1]
    · simp [n8, c.1, zf_Mo_compute_b81, zf_Mo_compute_b109, zf_Mo_compute_b133, zf_Mo_compute_b157, zf_Mo_compute_b181, zf_Mo_compute_b222, zf_Mo_compute_b267, px_ck hp, px_cl (show p < 2 ^ 31 by omega), g2]
