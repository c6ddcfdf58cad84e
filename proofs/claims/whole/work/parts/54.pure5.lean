/-! count, to its end -/
theorem px_le0 {t : Nat} (h : t < 2 ^ 31) : (nI t ≤ 0) ↔ t = 0 := by
  rw [Int32.le_iff_toInt_le, nI_toInt h]
  simp
theorem px_eq0 {t : Nat} (h : t < 2 ^ 31) : (nI t = 0) ↔ t = 0 := by
  constructor
  · intro e
    have := congrArg Int32.toInt e
    rw [nI_toInt h] at this
    simpa using this
  · rintro rfl; rfl
theorem px_lt0 {t : Nat} (h : t < 2 ^ 31) : (0 < nI t) ↔ t ≠ 0 := by
  rw [Int32.lt_iff_toInt_lt, nI_toInt h]
  simp
  omega
theorem mr_loop (τ : St) (kx : Int32 → Option Int32) {s : Nat} (hs : s ≤ 10) (hS : τ 20 0 = nI s) : ∀ (n k : Nat) (a : Int32), k ≤ s → s - k < n → zf_Mo_resting_L4 τ kx n a (nI k) = kx (fld (fun i a => if τ 13 i ≤ 0 then a else a + 1) (s - k) k a) := by
  intro n
  induction n with
  | zero => intro k a h1 h2; omega
  | succ n ih =>
    intro k a hk hn
    rw [zf_Mo_resting_L4, hS]
    by_cases h : k = s
    · subst h
      rw [if_pos (nI_le (Nat.le_refl _) (by omega)), Nat.sub_self, fld]
    · rw [if_neg (nI_ge (by omega) (by omega)), px_ck (by omega) (by omega), nI_1, px_cl (by omega), show s - k = s - (k + 1) + 1 by omega, fld]
      by_cases hc : τ 13 k ≤ 0
      · rw [if_pos hc, if_pos hc, ih (k + 1) _ (by omega) (by omega)]
      · rw [if_neg hc, if_neg hc, ih (k + 1) _ (by omega) (by omega)]
theorem mr_eq (τ : St) {s : Nat} (hs : s ≤ 10) (hS : τ 20 0 = nI s) : zf_Mo_resting τ = some (fld (fun i a => if τ 13 i ≤ 0 then a else a + 1) s 0 0) := by
  have h := mr_loop τ (fun y_1 => some y_1) hs hS 300 0 0 (by omega) (by omega)
  exact h
theorem rest_sim {m : Nat} {σ τ : St} (hm : m < 2 ^ 31) (h : RB m (σ 18) (σ 19) (σ 20) (σ 21) (σ 22) (σ 23 0) (σ 24 0) (σ 25 0) (τ 10) (τ 11) (τ 12) (τ 13) (τ 20 0) (τ 21 0) (τ 22 0)) : ∃ v, zf_He_resting σ = some v ∧ zf_Mo_resting τ = some v := by
  obtain ⟨⟨p0, p1, p2, p3, pn, pg, pc⟩, c, n, hc, qc, hn, qn, hB, -⟩ := h
  refine ⟨_, rs_eq σ hn (by rw [pn, qn]), ?_⟩
  rw [mr_eq τ hn qn]
  congr 1
  apply fld_congr
  intro i a _ hi
  obtain ⟨a', z, t, hb, ht, -⟩ := hB i (by omega)
  have e := hb.2.2.1
  rw [p3, e]
  have h1 := px_le0 (show t < 2 ^ 31 by omega)
  have h2 := px_eq0 (show t < 2 ^ 31 by omega)
  by_cases h0 : t = 0
  · rw [if_pos (h1.mpr h0), if_pos (h2.mpr h0)]
  · rw [if_neg (fun h => h0 (h1.mp h)), if_neg (fun h => h0 (h2.mp h))]
theorem sim_count (j : Nat) (σ τ : St) (x1 : Int32) (hj : j < 512) (hR : Rel j σ τ) : ∃ (v : Int32) (τ' : St), zf_SW_count σ x1 = some v ∧ zf_Mo_count τ x1 = some (v, τ') ∧ Rel (j + 1) σ τ' := by
  have hR' := (hR.th 0).step
  obtain ⟨r1, r2, r3, r4, r5, r6, r7⟩ := hR.th 0
  obtain ⟨v, hv1, hv2⟩ := rest_sim (by omega) r4
  obtain ⟨⟨f1, f2, f3, f4, f5⟩, s, hs, hS⟩ := r5
  obtain ⟨⟨p0, p1, p2, p3, pn, pg, pc⟩, -⟩ := r4
  obtain ⟨⟨xa, xd, xt, xs⟩, -, x6, -⟩ := r7
  have a1 := at_loop σ (fun y_1 => some y_1) hs (by rw [f5, hS]) 300 0 0 (by omega) (by omega)
  have a2 := pt_loop σ (fun y_1 => some y_1) 300 0 0 (by omega) (by omega)
  have a1' : zf_Fi_allTimes σ = some _ := a1
  have a2' : zf_Pi_there σ = some _ := a2
  have em : zf_Mo_count τ x1 = _ := mt_loop (zz_put τ 27 0 0) _ hs hS x1 0 300 0 0 (by omega) (by omega)
  have em2 := fun kx x2 => mp_loop (zz_put τ 27 0 0) kx x1 x2 300 0 0 (by omega) (by omega)
  simp only [show (nI 0 : Int32) = 0 from rfl] at em2
  simp only [em2] at em
  have g1 : fld (fun i a => a + σ 16 i) (s - 0) 0 0 = fld (fun i a => a + zz_put τ 27 0 0 18 i) (s - 0) 0 0 := by
    apply fld_congr
    intro i a _ _
    rw [f4]
  have g2 : fld (fun i a => if σ 10 i ≤ 0 then a else a + 1) (32 - 0) 0 0 = fld (fun i a => if zz_put τ 27 0 0 19 i = 0 then a else a + 1) (32 - 0) 0 0 := by
    apply fld_congr
    intro i a _ hi
    rcases r6 i (by omega) with ⟨h1, h2⟩ | ⟨h1, n, h3, h4⟩
    · rw [if_pos h1, if_pos (by rw [h2]; decide)]
    · have e1 : ¬ σ 10 i ≤ 0 := by rw [h4, px_le0 (by have := h3.2.1; omega)]; have := h3.1; omega
      have e2 : ¬ zz_put τ 27 0 0 19 i = 0 := by rw [h1]; decide
      rw [if_neg e1, if_neg e2]
  rw [g1] at a1'
  rw [g2] at a2'
  have hst : zz_put τ 27 0 0 28 0 = 0 ∨ zz_put τ 27 0 0 28 0 = 1 := x6
  have hst' : zf_Ma_isStopped σ = some (zz_put τ 27 0 0 28 0) := by
    unfold zf_Ma_isStopped
    rw [xs, px_kz hst]
  rw [em]
  unfold zf_SW_count
  simp only [a1', a2', hv1, hv2, zf_Ma_position, zf_Ma_allDone, zf_Fi_size, zf_He_there, zf_He_everGot, zf_Pi_everTranslated, Option.bind_some, hst', xa, xd, xt, f5, pn, pg]
  by_cases c0 : x1 = 0
  · exact ⟨_, _, by rw [if_pos c0], by rw [if_pos c0], hR'⟩
  rw [if_neg c0, if_neg c0]
  by_cases c1 : x1 = 1
  · rw [if_pos c1, if_pos c1]
    by_cases hh : zz_put τ 27 0 0 28 0 = 0
    · exact ⟨_, _, by rw [if_pos hh], by rw [if_pos hh], hR'⟩
    · exact ⟨_, _, by rw [if_neg hh], by rw [if_neg hh], hR'⟩
  rw [if_neg c1, if_neg c1]
  by_cases c2 : x1 = 2
  · exact ⟨_, _, by rw [if_pos c2], by rw [if_pos c2], hR'⟩
  rw [if_neg c2, if_neg c2]
  by_cases c3 : x1 = 3
  · exact ⟨_, _, by rw [if_pos c3], by rw [if_pos c3], hR'⟩
  rw [if_neg c3, if_neg c3]
  by_cases c4 : x1 = 4
  · exact ⟨_, _, by rw [if_pos c4], by rw [if_pos c4], hR'⟩
  rw [if_neg c4, if_neg c4]
  by_cases c5 : x1 = 5
  · exact ⟨_, _, by rw [if_pos c5], by rw [if_pos c5], hR'⟩
  rw [if_neg c5, if_neg c5]
  by_cases c6 : x1 = 6
  · exact ⟨_, _, by rw [if_pos c6], by rw [if_pos c6], hR'⟩
  rw [if_neg c6, if_neg c6]
  by_cases c7 : x1 = 7
  · exact ⟨_, _, by rw [if_pos c7], by rw [if_pos c7], hR'⟩
  rw [if_neg c7, if_neg c7]
  by_cases c8 : x1 = 8
  · exact ⟨_, _, by rw [if_pos c8], by rw [if_pos c8], hR'⟩
  rw [if_neg c8, if_neg c8]
  by_cases c9 : x1 = 9
  · exact ⟨_, _, by rw [if_pos c9], by rw [if_pos c9], hR'⟩
  rw [if_neg c9, if_neg c9]
  exact ⟨_, _, rfl, rfl, hR'⟩
