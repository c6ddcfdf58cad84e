/-! pieces; code -/
theorem px_lt13 {k : Nat} (h : k ≤ 18) : (nI k < 13) ↔ k < 13 := nI_ltI (a := k) (b := 13) (by omega) (by omega)
theorem px_m13 (x : Int32) : zf_Mo_in x 13 16 = some (if x < 13 then 0 else if 16 < x then 0 else 1) := by
  unfold zf_Mo_in
  rw [px_k0, px_k1]
  split
  · rfl
  · split <;> rfl
theorem ends_S {σ : St} {p : Nat} (hp : p < 32) : (isEnd (σ 5) p → zf_Pr_endsPiece σ (nI p) = some 1) ∧ (¬ isEnd (σ 5) p → zf_Pr_endsPiece σ (nI p) = some 0) := by
  unfold zf_Pr_endsPiece isEnd
  have e31 : (nI p = 31) ↔ p = 31 := nI_eq (a := p) (b := 31) (by omega) (by omega)
  simp only [px_ck hp (show 32 < 2 ^ 31 by omega), px_cl (show p < 2 ^ 31 by omega), px_k0, px_k1]
  constructor
  · rintro (h | ⟨h1, h2⟩ | h)
    · rw [if_pos h]
    · rw [if_neg h1, if_pos h2]
      split <;> rfl
    · rw [if_pos (e31.mpr h)]
      split
      · rfl
      · split
        · rfl
        · split <;> rfl
  · intro h
    rw [if_neg (fun h' => h (Or.inl h')), if_neg (fun h' => h (Or.inr (Or.inr (e31.mp h'))))]
    split
    · rfl
    · rename_i h1
      rw [if_neg (fun h2 => h (Or.inr (Or.inl ⟨h1, h2⟩)))]
theorem ends_M {τ : St} {p : Nat} (hp : p < 32) : (isEnd (τ 0) p → zf_Mo_ends τ (nI p) = some 1) ∧ (¬ isEnd (τ 0) p → zf_Mo_ends τ (nI p) = some 0) := by
  unfold zf_Mo_ends isEnd
  have e31 : (nI p = 31) ↔ p = 31 := nI_eq (a := p) (b := 31) (by omega) (by omega)
  simp only [px_ck hp (show 32 < 2 ^ 31 by omega), px_cl (show p < 2 ^ 31 by omega), px_k0, px_k1, px_m13, Option.bind_some]
  constructor
  · rintro (h | ⟨h1, h2⟩ | h)
    · rw [if_pos h]
    · rw [if_neg h1, if_neg (Int32.not_lt.mpr h2), if_neg (show ¬ (1 : Int32) = 0 by decide)]
      split <;> rfl
    · rw [if_pos (e31.mpr h), ite_self, ite_self]
  · intro h
    rw [if_neg (fun h' => h (Or.inl h')), if_neg (fun h' => h (Or.inr (Or.inr (e31.mp h'))))]
    rw [if_pos]
    split
    · rfl
    · rename_i h1
      rw [if_pos (Int32.not_le.mp (fun h2 => h (Or.inr (Or.inl ⟨h1, h2⟩))))]
theorem len_ex (q0 : Nat → Int32) {p : Nat} (hp : p < 32) : ∃ n, Len q0 p n := by
  obtain ⟨k, hk, hl⟩ := pk_least (fun k => isEnd q0 (p + k)) ⟨31 - p, Or.inr (Or.inr (by omega))⟩
  have hk31 : p + k ≤ 31 := by
    by_cases h : p + k ≤ 31
    · exact h
    · exact absurd (Or.inr (Or.inr (by omega))) (hl (31 - p) (by omega))
  by_cases h : k + 1 ≤ 8
  · refine ⟨k + 1, by omega, h, by omega, fun i hi => hl i (by omega), Or.inl ?_⟩
    rw [show p + (k + 1) - 1 = p + k by omega]
    exact hk
  · exact ⟨8, by omega, by omega, by omega, fun i hi => hl i (by omega), Or.inr rfl⟩
theorem Len.congr {q0 q0' : Nat → Int32} {p n : Nat} (h : Len q0 p n) (hq : ∀ k, p ≤ k → k < p + n → q0' k = q0 k) : Len q0' p n := by
  obtain ⟨h1, h2, h3, h4, h5⟩ := h
  refine ⟨h1, h2, h3, fun i hi => ?_, ?_⟩
  · have := h4 i hi
    unfold isEnd at *
    rw [hq (p + i) (by omega) (by omega)]
    exact this
  · rcases h5 with h5 | h5
    · left
      unfold isEnd at *
      rw [hq (p + n - 1) (by omega) (by omega)]
      exact h5
    · exact Or.inr h5
theorem endOf_loop (τ : St) (kx : Int32 → Option Int32) {p n : Nat} (h : Len (τ 0) p n) : ∀ (f i : Nat), i < n → n - i ≤ f → zf_Mo_endOf_L2 τ kx f (nI p) (nI (p + i)) = kx (nI (p + n - 1)) := by
  obtain ⟨h1, h2, h3, h4, h5⟩ := h
  intro f
  induction f with
  | zero => intro i hi hf; omega
  | succ f ih =>
    intro i hi hf
    rw [zf_Mo_endOf_L2]
    have h7 : (nI p + 7 ≤ nI (p + i)) ↔ p + 7 ≤ p + i := by
      rw [show (7 : Int32) = nI 7 from rfl, nI_add, nI_leI (by omega) (by omega)]
    by_cases hin : i + 1 = n
    · by_cases he : isEnd (τ 0) (p + i)
      · rw [(ends_M (by omega)).1 he, Option.bind_some, if_neg (by decide), show p + n - 1 = p + i by omega]
      · rw [(ends_M (by omega)).2 he, Option.bind_some, if_pos rfl]
        rcases h5 with h5 | h5
        · rw [show p + n - 1 = p + i by omega] at h5
          exact absurd h5 he
        · rw [if_pos (h7.mpr (by omega)), show p + n - 1 = p + i by omega]
    · rw [(ends_M (by omega)).2 (h4 i (by omega)), Option.bind_some, if_pos rfl, if_neg (fun h => by have := h7.mp h; omega), nI_1]
      exact ih (i + 1) (by omega) (by omega)
theorem endOf_eq (τ : St) {p n : Nat} (h : Len (τ 0) p n) : zf_Mo_endOf τ (nI p) = some (nI (p + n - 1)) :=
  endOf_loop τ (fun y_2 => some y_2) h 300 0 (by have := h.1; omega) (by have := h.2.1; omega)
theorem len_loop (σ : St) (kx : Int32 → Option Int32) {p n : Nat} (h : Len (σ 5) p n) : ∀ (f i : Nat), 1 ≤ i → i ≤ n → n - i < f → zf_Pi_lengthFrom_L2 σ kx f (nI p) (nI i) = kx (nI n) := by
  obtain ⟨h1, h2, h3, h4, h5⟩ := h
  intro f
  induction f with
  | zero => intro i hi hi' hf; omega
  | succ f ih =>
    intro i hi hi' hf
    rw [zf_Pi_lengthFrom_L2]
    have h8 : (8 ≤ nI i) ↔ 8 ≤ i := nI_leI (a := 8) (b := i) (by omega) (by omega)
    have e : nI p + nI i - 1 = nI (p + i - 1) := by
      rw [nI_add, show (1 : Int32) = nI 1 from rfl, pk_sub (by omega)]
    by_cases hin : i = n
    · subst hin
      by_cases h8' : i = 8
      · rw [if_pos (h8.mpr (by omega))]
      · rw [if_neg (fun h => by have := h8.mp h; omega), e]
        rcases h5 with h5 | h5
        · rw [(ends_S (by omega)).1 h5, Option.bind_some, if_neg (by decide)]
        · omega
    · have := h4 (i - 1) (by omega)
      rw [show p + (i - 1) = p + i - 1 by omega] at this
      rw [if_neg (fun h => by have := h8.mp h; omega), e, (ends_S (by omega)).2 this, Option.bind_some, if_pos rfl, nI_1]
      exact ih (i + 1) (by omega) (by omega) (by omega)
theorem len_eq (σ : St) {p n : Nat} (h : Len (σ 5) p n) : zf_Pi_lengthFrom σ (nI p) = some (nI n) :=
  len_loop σ (fun y_2 => some y_2) h 300 1 (by omega) h.1 (by have := h.2.1; omega)
theorem code_loop (kx : St → Option St) (kx' : St → Int32 → Int32 → Int32 → Int32 → Int32 → Int32 → Option St) {i : Nat} (hi : i < 32) (q0 : Nat → Int32) (y2 y3 y4 y5 y6 : Int32) :
    ∀ (f k : Nat) (σ τ : St), k ≤ i + 1 → i + 1 - k < f → τ 0 = q0 → RL (σ 10) q0 (τ 19) → (∀ p, p < k → τ 19 p = 1 → ∃ n, Len q0 p n ∧ p + n ≤ i) →
    ∃ σ' τ' : St, zf_Pi_throwAwayWith_L2 kx f σ (nI i) (nI k) = kx σ' ∧ zf_Mo_code_L68 kx' f τ (nI i) y2 y3 y4 y5 y6 (nI k) = kx' τ' (nI i) y2 y3 y4 y5 y6 ∧
      (∀ v, v ≠ 10 → σ' v = σ v) ∧ (∀ v, v ≠ 19 → τ' v = τ v) ∧ RL (σ' 10) q0 (τ' 19) ∧ ∀ p, p ≤ i → τ' 19 p = 1 → ∃ n, Len q0 p n ∧ p + n ≤ i := by
  intro f
  induction f with
  | zero => intro k σ τ h1 h2; omega
  | succ f ih =>
    intro k σ τ hk hf h0 hL hd
    rw [zf_Pi_throwAwayWith_L2, zf_Mo_code_L68]
    by_cases hki : k = i + 1
    · subst hki
      rw [if_pos (nI_lt (by omega) (by omega)), if_pos (nI_lt (by omega) (by omega))]
      exact ⟨σ, τ, rfl, rfl, fun _ _ => rfl, fun _ _ => rfl, hL, fun p hp => hd p (by omega)⟩
    · rw [if_neg (nI_nlt (by omega) (by omega)), if_neg (nI_nlt (by omega) (by omega)), px_ck (show k < 32 by omega) (by omega), px_ck (show k < 32 by omega) (by omega), px_ck (show k < 32 by omega) (by omega), px_ck (show k < 32 by omega) (by omega), px_cl (by omega), nI_1]
      rcases hL k (by omega) with ⟨a1, a2⟩ | ⟨a1, n, a2, a3⟩
      · rw [if_pos a1, if_pos (by rw [a2, px_add0]; exact nI_le (by omega) (by omega))]
        refine ih (k + 1) σ τ (by omega) (by omega) h0 hL (fun p hp h1 => ?_)
        by_cases hpk : p = k
        · subst hpk; rw [a1] at h1; exact absurd h1 (by decide)
        · exact hd p (by omega) h1
      · have h2 := a2.2.1
        have h3 := a2.2.2.1
        have h4 := a2.1
        rw [if_neg (show ¬ τ 19 k = 0 by rw [a1]; decide), endOf_eq τ (by rw [h0]; exact a2), Option.bind_some, a3, nI_add]
        by_cases hc : k + n ≤ i
        · rw [if_pos (nI_le hc (by omega)), if_pos (nI_lt (by omega) (by omega))]
          refine ih (k + 1) σ τ (by omega) (by omega) h0 hL (fun p hp h1 => ?_)
          by_cases hpk : p = k
          · subst hpk; exact ⟨n, a2, hc⟩
          · exact hd p (by omega) h1
        · rw [if_neg (nI_ge (by omega) (by omega)), if_neg (nI_nlt (by omega) (by omega)), px_n0]
          obtain ⟨σ', τ', e1, e2, e3, e4, e5, e6⟩ := ih (k + 1) (zz_put σ 10 k 0) (zz_put τ 19 k 0) (by omega) (by omega) (by simpa [px_at] using h0) (by
            intro p hp
            by_cases hpk : p = k
            · subst hpk; left; simp [px_at, px_upd]
            · have := hL p hp
              simpa [px_at, px_upd, hpk] using this) (by
            intro p hp h1
            by_cases hpk : p = k
            · subst hpk; simp [px_at, px_upd] at h1
            · exact hd p (by omega) (by simpa [px_at, px_upd, hpk] using h1))
          exact ⟨σ', τ', e1, e2, fun v hv => by rw [e3 v hv, px_at, if_neg hv], fun v hv => by rw [e4 v hv, px_at, if_neg hv], e5, e6⟩
theorem sim_code (j : Nat) (σ τ : St) (x1 x2 x3 x4 x5 x6 : Int32) (hj : j < 512) (hR : Rel j σ τ) : ∃ (out : TO) (τ' : St), zf_SW_code σ x1 x2 x3 x4 x5 x6 = some out ∧ (out.1 = 0 ∨ out.1 = 1) ∧ zf_Mo_code τ x1 x2 x3 x4 x5 x6 = some τ' ∧ zf_Mo_thrown τ' = some (zh_n out.1) ∧ Rel (j + 1) out.2.2 τ' := by
  have e1 : zf_Mo_in x1 0 31 = some (chk x1 31) := chk_in0 x1 31
  have e2 : zf_Mo_in x2 0 18 = some (chk x2 18) := chk_in0 x2 18
  have e2' : zf_SW_isWithin x2 18 = some (chk x2 18) := chk_within x2 18
  have e3 : zf_Mo_in x3 0 7 = some (chk x3 7) := chk_in0 x3 7
  have e4 : zf_Mo_in x4 0 7 = some (chk x4 7) := chk_in0 x4 7
  have e5 : zf_Mo_in x5 0 7 = some (chk x5 7) := chk_in0 x5 7
  by_cases hall : chk x1 31 = 1 ∧ chk x2 18 = 1 ∧ chk x3 7 = 1 ∧ chk x4 7 = 1 ∧ chk x5 7 = 1
  · obtain ⟨h1, h2, h3, h4, h5⟩ := hall
    obtain ⟨i, hi, rfl⟩ := chk_in (by omega) h1
    have hi' : i < 32 := by omega
    have c1 : (nI i).toNatClampNeg = i := px_cl (by omega)
    obtain ⟨r1, r2, r3, r4, r5, r6, r7⟩ := hR.step
    obtain ⟨σ', τ', g1, g2, g3, g4, g5, g6⟩ := code_loop (fun s3 => some s3) (fun s32 s32_1 s32_2 s32_3 s32_4 s32_5 s32_6 => zz_ck s32_1 32 (zz_ck s32_1 32 (zz_ck s32_1 32 (zz_ck s32_1 32 (zz_ck s32_1 32 (some (zz_put (zz_put (zz_put (zz_put (zz_put s32 0 s32_1.toNatClampNeg s32_2) 1 s32_1.toNatClampNeg s32_3) 2 s32_1.toNatClampNeg s32_4) 3 s32_1.toNatClampNeg s32_5) 4 s32_1.toNatClampNeg s32_6)))))))
      hi' (τ 0) x2 x3 x4 x5 x6 300 0 (zz_put (zz_put (zz_put (zz_put (zz_put σ 5 i x2) 6 i x3) 7 i x4) 8 i x5) 9 i x6) (zz_put τ 27 0 0) (by omega) (by omega) (by simp [px_at]) (by simpa [px_at] using r6) (by intro p hp; omega)
    refine ⟨(0, 0, σ'), zz_put (zz_put (zz_put (zz_put (zz_put τ' 0 i x2) 1 i x3) 2 i x4) 3 i x5) 4 i x6, ?_, Or.inl rfl, ?_, ?_, ?_⟩
    · have g1' : zf_Pi_throwAwayWith (zz_put (zz_put (zz_put (zz_put (zz_put σ 5 i x2) 6 i x3) 7 i x4) 8 i x5) 9 i x6) (nI i) = some σ' := g1
      simp [zf_SW_code, chk_pr, e2', chk_re, h1, h2, h3, h4, h5, zf_Pr_write, px_ck hi', c1, g1']
    · have g2' := g2
      rw [show (nI 0 : Int32) = 0 from rfl] at g2'
      simp only [zf_Mo_code, e1, e2, e3, e4, e5, h1, h2, h3, h4, h5, px_bad1, Option.bind_some, if_neg (show ¬ (1 : Int32) = 0 by decide), if_pos, g2', px_ck hi' (show 32 < 2 ^ 31 by omega), c1]
    · simp [zf_Mo_thrown, px_at, g4, zh_n, px_upd]
    · obtain ⟨⟨p0, p1, p2, p3, p4⟩, pr⟩ := r1
      have s := g3
      have t := g4
      obtain ⟨k2, b2, rfl⟩ := chk_in (by omega) h2
      obtain ⟨k3, b3, rfl⟩ := chk_in (by omega) h3
      obtain ⟨k4, b4, rfl⟩ := chk_in (by omega) h4
      obtain ⟨k5, b5, rfl⟩ := chk_in (by omega) h5
      refine ⟨?_, ?_, ?_, ?_, ?_, ?_, ?_⟩
      · refine ⟨?_, fun p hp => ?_⟩
        · simp [px_at, s, t, p0, p1, p2, p3, p4]
        · by_cases hpi : p = i
          · simp only [px_at, px_upd, hpi]
            refine ⟨⟨k2, b2, ?_⟩, ⟨k3, b3, ?_⟩, ⟨k4, b4, ?_⟩, ⟨k5, b5, ?_⟩⟩ <;> simp [px_upd]
          · have := pr p hp
            simpa [px_at, px_upd, hpi, t] using this
      · simpa [px_at, s, t] using r2
      · simpa [px_at, s, t] using r3
      · simpa [px_at, s, t] using r4
      · simpa [px_at, s, t] using r5
      · intro p hp
        have e19 : (zz_put (zz_put (zz_put (zz_put (zz_put τ' 0 i (nI k2)) 1 i (nI k3)) 2 i (nI k4)) 3 i (nI k5)) 4 i x6) 19 = τ' 19 := by simp [px_at]
        have e0 : (zz_put (zz_put (zz_put (zz_put (zz_put τ' 0 i (nI k2)) 1 i (nI k3)) 2 i (nI k4)) 3 i (nI k5)) 4 i x6) 0 = upd (τ 0) i (nI k2) := by simp [px_at, t]
        rw [e19, e0]
        rcases g5 p hp with h | ⟨h, n, hn, hl⟩
        · exact Or.inl h
        · refine Or.inr ⟨h, n, hn.congr (fun k hk1 hk2 => ?_), hl⟩
          rw [px_upd, if_neg]
          by_cases hpi : p ≤ i
          · obtain ⟨n', hn', hle⟩ := g6 p hpi h
            have : n = n' := by
              have a := endOf_eq τ hn
              have b := endOf_eq τ hn'
              rw [a] at b
              have b1 := hn.2.1
              have b2 := hn'.2.1
              have b3 := hn.1
              have b4 := hn'.1
              have := (nI_eq (by omega) (by omega)).mp (Option.some.inj b)
              omega
            omega
          · omega
      · simpa [px_at, s, t] using r7
  · refine ⟨(1, 0, σ), zz_put τ 27 0 1, ?_, Or.inr rfl, ?_, ?_, (hR.th 1).step⟩
    · rcases chk01 x1 31 with h1 | h1
      · simp [zf_SW_code, chk_pr, h1]
      rcases chk01 x2 18 with h2 | h2
      · simp [zf_SW_code, chk_pr, h1, e2', h2]
      rcases chk01 x3 7 with h3 | h3
      · simp [zf_SW_code, chk_pr, chk_re, h1, e2', h2, h3]
      rcases chk01 x4 7 with h4 | h4
      · simp [zf_SW_code, chk_pr, chk_re, h1, e2', h2, h3, h4]
      rcases chk01 x5 7 with h5 | h5
      · simp [zf_SW_code, chk_pr, chk_re, h1, e2', h2, h3, h4, h5]
      exact absurd ⟨h1, h2, h3, h4, h5⟩ hall
    · rcases chk01 x1 31 with h1 | h1
      · simp [zf_Mo_code, e1, h1, px_bad0]
      rcases chk01 x2 18 with h2 | h2
      · simp [zf_Mo_code, e1, h1, e2, h2, px_bad0]
      rcases chk01 x3 7 with h3 | h3
      · simp [zf_Mo_code, e1, h1, e2, h2, e3, h3, px_bad0]
      rcases chk01 x4 7 with h4 | h4
      · simp [zf_Mo_code, e1, h1, e2, h2, e3, h3, e4, h4, px_bad0]
      rcases chk01 x5 7 with h5 | h5
      · simp [zf_Mo_code, e1, h1, e2, h2, e3, h3, e4, h4, e5, h5, px_bad0]
      exact absurd ⟨h1, h2, h3, h4, h5⟩ hall
    · simp [zf_Mo_thrown, px_at, px_upd, zh_n]
