/-! count -/
def fld (g : Nat → Int32 → Int32) : Nat → Nat → Int32 → Int32
  | 0, _, a => a
  | n + 1, k, a => fld g n (k + 1) (g k a)
theorem fld_congr {g h : Nat → Int32 → Int32} : ∀ (n k : Nat) (a : Int32), (∀ i a, k ≤ i → i < k + n → g i a = h i a) → fld g n k a = fld h n k a := by
  intro n
  induction n with
  | zero => intro k a _; rfl
  | succ n ih =>
    intro k a hh
    rw [fld, fld, hh k a (by omega) (by omega)]
    exact ih (k + 1) _ (fun i a h1 h2 => hh i a (by omega) (by omega))
theorem at_loop (σ : St) (kx : Int32 → Option Int32) {s : Nat} (hs : s ≤ 24) (hS : σ 17 0 = nI s) : ∀ (n k : Nat) (a : Int32), k ≤ s → s - k < n → zf_Fi_allTimes_L4 σ kx n a (nI k) = kx (fld (fun i a => a + σ 16 i) (s - k) k a) := by
  intro n
  induction n with
  | zero => intro k a h1 h2; omega
  | succ n ih =>
    intro k a hk hn
    rw [zf_Fi_allTimes_L4, hS]
    by_cases h : k = s
    · subst h
      rw [if_pos (nI_le (Nat.le_refl _) (by omega)), Nat.sub_self, fld]
    · rw [if_neg (nI_ge (by omega) (by omega)), px_ck (by omega) (by omega), nI_1, px_cl (by omega), ih (k + 1) _ (by omega) (by omega), show s - k = s - (k + 1) + 1 by omega, fld]
theorem mt_loop (τ : St) (kx : St → Int32 → Int32 → Int32 → Option (Int32 × St)) {s : Nat} (hs : s ≤ 24) (hS : τ 23 0 = nI s) (x1 x3 : Int32) : ∀ (n k : Nat) (a : Int32), k ≤ s → s - k < n → zf_Mo_count_L12 kx n τ x1 a x3 (nI k) = kx τ x1 (fld (fun i a => a + τ 18 i) (s - k) k a) x3 := by
  intro n
  induction n with
  | zero => intro k a h1 h2; omega
  | succ n ih =>
    intro k a hk hn
    rw [zf_Mo_count_L12, hS]
    by_cases h : k = s
    · subst h
      rw [if_pos (nI_le (Nat.le_refl _) (by omega)), Nat.sub_self, fld]
    · rw [if_neg (nI_ge (by omega) (by omega)), px_ck (by omega) (by omega), nI_1, px_cl (by omega), ih (k + 1) _ (by omega) (by omega), show s - k = s - (k + 1) + 1 by omega, fld]
theorem pt_loop (σ : St) (kx : Int32 → Option Int32) : ∀ (n k : Nat) (a : Int32), k ≤ 32 → 32 - k < n → zf_Pi_there_L4 σ kx n a (nI k) = kx (fld (fun i a => if σ 10 i ≤ 0 then a else a + 1) (32 - k) k a) := by
  intro n
  induction n with
  | zero => intro k a h1 h2; omega
  | succ n ih =>
    intro k a hk hn
    rw [zf_Pi_there_L4, show (32 : Int32) = nI 32 from rfl]
    by_cases h : k = 32
    · subst h
      rw [if_pos (nI_le (Nat.le_refl _) (by omega)), Nat.sub_self, fld]
    · rw [if_neg (nI_ge (by omega) (by omega)), px_ck (by omega) (by omega), nI_1, px_cl (by omega), show 32 - k = 32 - (k + 1) + 1 by omega, fld]
      by_cases hc : σ 10 k ≤ 0
      · rw [if_pos hc, if_pos hc, ih (k + 1) _ (by omega) (by omega)]
      · rw [if_neg hc, if_neg hc, ih (k + 1) _ (by omega) (by omega)]
theorem mp_loop (τ : St) (kx : St → Int32 → Int32 → Int32 → Option (Int32 × St)) (x1 x2 : Int32) : ∀ (n k : Nat) (a : Int32), k ≤ 32 → 32 - k < n → zf_Mo_count_L40 kx n τ x1 x2 a (nI k) = kx τ x1 x2 (fld (fun i a => if τ 19 i = 0 then a else a + 1) (32 - k) k a) := by
  intro n
  induction n with
  | zero => intro k a h1 h2; omega
  | succ n ih =>
    intro k a hk hn
    rw [zf_Mo_count_L40, show (32 : Int32) = nI 32 from rfl]
    by_cases h : k = 32
    · subst h
      rw [if_pos (nI_le (Nat.le_refl _) (by omega)), Nat.sub_self, fld]
    · rw [if_neg (nI_ge (by omega) (by omega)), px_ck (by omega) (by omega), nI_1, px_cl (by omega), show 32 - k = 32 - (k + 1) + 1 by omega, fld]
      by_cases hc : τ 19 k = 0
      · rw [if_pos hc, if_pos hc, ih (k + 1) _ (by omega) (by omega)]
      · rw [if_neg hc, if_neg hc, ih (k + 1) _ (by omega) (by omega)]
theorem px_live (σ : St) {k : Nat} (hk : k < 10) : zf_He_isLive σ (nI k) = some (if σ 22 k = 0 then 1 else 0) := by
  unfold zf_He_isLive
  rw [px_ck hk (by omega), px_cl (by omega), px_k0, px_k1]
  split <;> rfl
theorem rs_loop (σ : St) (kx : Int32 → Option Int32) {s : Nat} (hs : s ≤ 10) (hS : σ 23 0 = nI s) : ∀ (n k : Nat) (a : Int32), k ≤ s → s - k < n → zf_He_resting_L4 σ kx n a (nI k) = kx (fld (fun i a => if σ 22 i = 0 then a else a + 1) (s - k) k a) := by
  intro n
  induction n with
  | zero => intro k a h1 h2; omega
  | succ n ih =>
    intro k a hk hn
    rw [zf_He_resting_L4, hS]
    by_cases h : k = s
    · subst h
      rw [if_pos (nI_le (Nat.le_refl _) (by omega)), Nat.sub_self, fld]
    · rw [if_neg (nI_ge (by omega) (by omega)), px_live σ (by omega), Option.bind_some, nI_1, show s - k = s - (k + 1) + 1 by omega, fld]
      by_cases hc : σ 22 k = 0
      · rw [if_pos hc, if_neg (by decide), if_pos hc, ih (k + 1) _ (by omega) (by omega)]
      · rw [if_neg hc, if_pos rfl, if_neg hc, ih (k + 1) _ (by omega) (by omega)]
theorem rs_eq (σ : St) {s : Nat} (hs : s ≤ 10) (hS : σ 23 0 = nI s) : zf_He_resting σ = some (fld (fun i a => if σ 22 i = 0 then a else a + 1) s 0 0) := by
  have h := rs_loop σ (fun y_1 => some y_1) hs hS 300 0 0 (by omega) (by omega)
  exact h
