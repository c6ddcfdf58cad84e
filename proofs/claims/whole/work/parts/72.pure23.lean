/-! the beginning: a new object and a new reference are related -/
theorem e33_loop (kx : St → Option St) : ∀ (f k : Nat) (σ : St), k ≤ 64 → 64 - k < f → ∃ σ', zf_E_Me_init_L33 kx f σ (nI k) = kx σ' ∧ (∀ v, v ≠ 1 → v ≠ 2 → σ' v = σ v) ∧ (∀ i, σ' 1 i = if k ≤ i ∧ i < 64 then 1 else σ 1 i) ∧ ∀ i, σ' 2 i = if k ≤ i ∧ i < 64 then 1 else σ 2 i := by
  intro f
  induction f with
  | zero => intro k σ h1 h2; omega
  | succ f ih =>
    intro k σ hk hf
    rw [zf_E_Me_init_L33]
    by_cases h : k = 64
    · subst h
      rw [if_pos (by decide)]
      exact ⟨σ, rfl, fun _ _ _ => rfl, fun i => by rw [if_neg (by omega)], fun i => by rw [if_neg (by omega)]⟩
    · have hk' : k < 256 := by omega
      rw [if_neg (show ¬ (64 : Int32) ≤ nI k from nI_ge (b := 64) (by omega) (by omega)), px_ck hk' (by omega), px_ck hk' (by omega), px_cl (by omega), px_n1, nI_1]
      obtain ⟨σ', g1, g2, g3, g4⟩ := ih (k + 1) (zz_put (zz_put σ 1 k 1) 2 k 1) (by omega) (by omega)
      refine ⟨σ', g1, fun v h1 h2 => by rw [g2 v h1 h2]; simp [px_at, h1, h2], fun i => ?_, fun i => ?_⟩
      · rw [g3 i]
        by_cases hi : k + 1 ≤ i ∧ i < 64
        · rw [if_pos hi, if_pos (by omega)]
        · rw [if_neg hi]
          by_cases hik : i = k
          · rw [if_pos (by omega)]; simp [px_at, px_upd, hik]
          · rw [if_neg (by omega)]; simp [px_at, px_upd, hik]
      · rw [g4 i]
        by_cases hi : k + 1 ≤ i ∧ i < 64
        · rw [if_pos hi, if_pos (by omega)]
        · rw [if_neg hi]
          by_cases hik : i = k
          · rw [if_pos (by omega)]; simp [px_at, px_upd, hik]
          · rw [if_neg (by omega)]; simp [px_at, px_upd, hik]
theorem e63_loop (kx : St → Option St) : ∀ (f k : Nat) (σ : St), k ≤ 256 → 256 - k < f → ∃ σ', zf_E_Me_init_L63 kx f σ (nI k) = kx σ' ∧ (∀ v, v ≠ 1 → σ' v = σ v) ∧ ∀ i, σ' 1 i = if k ≤ i ∧ i < 256 then 1 else σ 1 i := by
  intro f
  induction f with
  | zero => intro k σ h1 h2; omega
  | succ f ih =>
    intro k σ hk hf
    rw [zf_E_Me_init_L63]
    by_cases h : k = 256
    · subst h
      rw [if_pos (by decide)]
      exact ⟨σ, rfl, fun _ _ => rfl, fun i => by rw [if_neg (by omega)]⟩
    · have hk' : k < 256 := by omega
      rw [if_neg (show ¬ (256 : Int32) ≤ nI k from nI_ge (b := 256) (by omega) (by omega)), px_ck hk' (by omega), px_cl (by omega), px_n1, nI_1]
      obtain ⟨σ', g1, g2, g3⟩ := ih (k + 1) (zz_put σ 1 k 1) (by omega) (by omega)
      refine ⟨σ', g1, fun v h1 => by rw [g2 v h1]; simp [px_at, h1], fun i => ?_⟩
      rw [g3 i]
      by_cases hi : k + 1 ≤ i ∧ i < 256
      · rw [if_pos hi, if_pos (by omega)]
      · rw [if_neg hi]
        by_cases hik : i = k
        · rw [if_pos (by omega)]; simp [px_at, px_upd, hik]
        · rw [if_neg (by omega)]; simp [px_at, px_upd, hik]
theorem g2_loop (kx : St → Option St) : ∀ (f k : Nat) (σ : St), k ≤ 8 → 8 - k < f → ∃ σ', zf_G_Re_clear_L2 kx f σ (nI k) = kx σ' ∧ (∀ i, σ' 0 i = if k ≤ i ∧ i < 8 then 0 else σ 0 i) ∧ ∀ i, σ' 1 i = if k ≤ i ∧ i < 8 then 15 else σ 1 i := by
  intro f
  induction f with
  | zero => intro k σ h1 h2; omega
  | succ f ih =>
    intro k σ hk hf
    rw [zf_G_Re_clear_L2]
    by_cases h : k = 8
    · subst h
      rw [if_pos (by decide)]
      exact ⟨σ, rfl, fun i => by rw [if_neg (by omega)], fun i => by rw [if_neg (by omega)]⟩
    · have hk' : k < 8 := by omega
      rw [if_neg (show ¬ (8 : Int32) ≤ nI k from nI_ge (b := 8) (by omega) (by omega)), px_ck hk' (by omega), px_ck hk' (by omega), px_cl (by omega), nI_1]
      obtain ⟨σ', g1, g3, g4⟩ := ih (k + 1) (zz_put (zz_put σ 0 k 0) 1 k 15) (by omega) (by omega)
      refine ⟨σ', g1, fun i => ?_, fun i => ?_⟩
      · rw [g3 i]
        by_cases hi : k + 1 ≤ i ∧ i < 8
        · rw [if_pos hi, if_pos (by omega)]
        · rw [if_neg hi]
          by_cases hik : i = k
          · rw [if_pos (by omega)]; simp [px_at, px_upd, hik]
          · rw [if_neg (by omega)]; simp [px_at, px_upd, hik]
      · rw [g4 i]
        by_cases hi : k + 1 ≤ i ∧ i < 8
        · rw [if_pos hi, if_pos (by omega)]
        · rw [if_neg hi]
          by_cases hik : i = k
          · rw [if_pos (by omega)]; simp [px_at, px_upd, hik]
          · rw [if_neg (by omega)]; simp [px_at, px_upd, hik]
theorem m174_loop (kx : St → Option St) : ∀ (f k : Nat) (σ : St), k ≤ 256 → 256 - k < f → ∃ σ', zf_Mo_init_L174 kx f σ (nI k) = kx σ' ∧ (∀ v, v ≠ 6 → v ≠ 7 → σ' v = σ v) ∧ (∀ i, σ' 6 i = if k ≤ i ∧ i < 256 then (if i < 64 ∨ 223 < i then 1 else 0) else σ 6 i) ∧ ∀ i, σ' 7 i = if k ≤ i ∧ i < 256 then (if i < 64 then 1 else 0) else σ 7 i := by
  intro f
  induction f with
  | zero => intro k σ h1 h2; omega
  | succ f ih =>
    intro k σ hk hf
    rw [zf_Mo_init_L174]
    by_cases h : k = 256
    · subst h
      rw [if_pos (by decide)]
      exact ⟨σ, rfl, fun _ _ _ => rfl, fun i => by rw [if_neg (by omega)], fun i => by rw [if_neg (by omega)]⟩
    · have hk' : k < 256 := by omega
      have l64 : (nI k < 64) ↔ k < 64 := nI_ltI (b := 64) (by omega) (by omega)
      have g64 : ((64 : Int32) ≤ nI k) ↔ 64 ≤ k := nI_leI (a := 64) (by omega) (by omega)
      have l223 : (nI k ≤ 223) ↔ k ≤ 223 := nI_leI (b := 223) (by omega) (by omega)
      rw [if_neg (show ¬ (256 : Int32) ≤ nI k from nI_ge (b := 256) (by omega) (by omega))]
      simp only [px_ck hk' (show 256 < 2 ^ 31 by omega), px_cl (show k < 2 ^ 31 by omega), nI_1]
      have step : ∀ a b : Int32, (a = if k < 64 ∨ 223 < k then 1 else 0) → (b = if k < 64 then 1 else 0) → ∃ σ', zf_Mo_init_L174 kx f (zz_put (zz_put σ 6 k a) 7 k b) (nI (k + 1)) = kx σ' ∧ (∀ v, v ≠ 6 → v ≠ 7 → σ' v = σ v) ∧ (∀ i, σ' 6 i = if k ≤ i ∧ i < 256 then (if i < 64 ∨ 223 < i then 1 else 0) else σ 6 i) ∧ ∀ i, σ' 7 i = if k ≤ i ∧ i < 256 then (if i < 64 then 1 else 0) else σ 7 i := by
        intro a b ha hb
        obtain ⟨σ', g1, g2, g3, g4⟩ := ih (k + 1) (zz_put (zz_put σ 6 k a) 7 k b) (by omega) (by omega)
        refine ⟨σ', g1, fun v h1 h2 => by rw [g2 v h1 h2]; simp [px_at, h1, h2], fun i => ?_, fun i => ?_⟩
        · rw [g3 i]
          by_cases hi : k + 1 ≤ i ∧ i < 256
          · rw [if_pos hi, if_pos (show k ≤ i ∧ i < 256 by omega)]
          · rw [if_neg hi]
            by_cases hik : i = k
            · subst hik
              rw [if_pos (by omega), ← ha]; simp [px_at, px_upd]
            · rw [if_neg (by omega)]; simp [px_at, px_upd, hik]
        · rw [g4 i]
          by_cases hi : k + 1 ≤ i ∧ i < 256
          · rw [if_pos hi, if_pos (show k ≤ i ∧ i < 256 by omega)]
          · rw [if_neg hi]
            by_cases hik : i = k
            · subst hik
              rw [if_pos (by omega), ← hb]; simp [px_at, px_upd]
            · rw [if_neg (by omega)]; simp [px_at, px_upd, hik]
      by_cases c1 : k < 64
      · rw [if_pos (l64.mpr c1), if_neg (fun e => by have := g64.mp e; omega)]
        exact step 1 1 (by rw [if_pos (Or.inl c1)]) (by rw [if_pos c1])
      · rw [if_neg (fun e => c1 (l64.mp e)), if_pos (g64.mpr (by omega)), if_pos (g64.mpr (by omega))]
        by_cases c2 : k ≤ 223
        · rw [if_pos (l223.mpr c2)]
          exact step 0 0 (by rw [if_neg (by omega)]) (by rw [if_neg c1])
        · rw [if_neg (fun e => c2 (l223.mp e))]
          exact step 1 0 (by rw [if_pos (Or.inr (by omega))]) (by rw [if_neg c1])
theorem m230_loop (kx : St → Option St) : ∀ (f k : Nat) (σ : St), k ≤ 8 → 8 - k < f → ∃ σ', zf_Mo_init_L230 kx f σ (nI k) = kx σ' ∧ (∀ v, v ≠ 9 → σ' v = σ v) ∧ ∀ i, σ' 9 i = if k ≤ i ∧ i < 8 then 15 else σ 9 i := by
  intro f
  induction f with
  | zero => intro k σ h1 h2; omega
  | succ f ih =>
    intro k σ hk hf
    rw [zf_Mo_init_L230]
    by_cases h : k = 8
    · subst h
      rw [if_pos (by decide)]
      exact ⟨σ, rfl, fun _ _ => rfl, fun i => by rw [if_neg (by omega)]⟩
    · have hk' : k < 8 := by omega
      rw [if_neg (show ¬ (8 : Int32) ≤ nI k from nI_ge (b := 8) (by omega) (by omega)), px_ck hk' (by omega), px_cl (by omega), nI_1]
      obtain ⟨σ', g1, g2, g3⟩ := ih (k + 1) (zz_put σ 9 k 15) (by omega) (by omega)
      refine ⟨σ', g1, fun v h1 => by rw [g2 v h1]; simp [px_at, h1], fun i => ?_⟩
      rw [g3 i]
      by_cases hi : k + 1 ≤ i ∧ i < 8
      · rw [if_pos hi, if_pos (by omega)]
      · rw [if_neg hi]
        by_cases hik : i = k
        · rw [if_pos (by omega)]; simp [px_at, px_upd, hik]
        · rw [if_neg (by omega)]; simp [px_at, px_upd, hik]
theorem rel_init : ∃ outE outG outM : St, zf_E_Me_init_b31 (fun _ _ => 0) = some outE ∧ zf_G_Re_clear (fun _ _ => 0) = some outG ∧ zf_Mo_init_b172 (zz_put (fun _ _ => 0) 28 0 1) = some outM ∧ Rel 0 (zSW0 outE outG) outM := by
  obtain ⟨e1, a1, a2, a3, a4⟩ := e33_loop (fun s2 => zf_E_Me_init_L63 (fun s4 => some s4) 300 s2 (224 : Int32)) 300 0 (fun _ _ => 0) (by omega) (by omega)
  obtain ⟨e2, b1, b2, b3⟩ := e63_loop (fun s4 => some s4) 300 224 e1 (by omega) (by omega)
  obtain ⟨g, c1, c2, c3⟩ := g2_loop (fun s2 => some s2) 300 0 (fun _ _ => 0) (by omega) (by omega)
  obtain ⟨m1, d1, d2, d3, d4⟩ := m174_loop (fun s7 => zf_Mo_init_L230 (fun s9 => some s9) 300 s7 (0 : Int32)) 300 0 (zz_put (fun _ _ => 0) 28 0 1) (by omega) (by omega)
  obtain ⟨m2, f1, f2, f3⟩ := m230_loop (fun s9 => some s9) 300 0 m1 (by omega) (by omega)
  have hz : ∀ v, v ≠ 6 → v ≠ 7 → v ≠ 9 → v ≠ 28 → m2 v = fun _ => 0 := fun v h6 h7 h9 h28 => by
    rw [f2 v h9, d2 v h6 h7, px_at, if_neg h28]
  have h28 : m2 28 0 = 1 := by
    rw [f2 28 (by omega), d2 28 (by omega) (by omega)]
    simp [px_at, px_upd]
  have h6 : ∀ i, m2 6 i = if i < 256 then (if i < 64 ∨ 223 < i then 1 else 0) else 0 := fun i => by
    rw [f2 6 (by omega), d3 i]
    simp [px_at]
  have h7 : ∀ i, m2 7 i = if i < 64 then 1 else 0 := fun i => by
    rw [f2 7 (by omega), d4 i]
    by_cases hi : i < 256
    · rw [if_pos ⟨Nat.zero_le _, hi⟩]
    · rw [if_neg (fun h => hi h.2), if_neg (show ¬ i < 64 by omega)]
      simp [px_at]
  have h9 : ∀ i, m2 9 i = if i < 8 then 15 else 0 := fun i => by
    rw [f3 i, d2 9 (by omega) (by omega)]
    simp [px_at]
  refine ⟨e2, g, m2, a1.trans b1, c1, d1.trans f1, ?_⟩
  show RelM (200 * 0) (zSW0 e2 g) m2
  refine ⟨?_, ?_, ?_, ?_, ?_, ?_, ?_⟩
  · rw [hz 0 (by omega) (by omega) (by omega) (by omega), hz 1 (by omega) (by omega) (by omega) (by omega), hz 2 (by omega) (by omega) (by omega) (by omega), hz 3 (by omega) (by omega) (by omega) (by omega), hz 4 (by omega) (by omega) (by omega) (by omega)]
    exact ⟨⟨rfl, rfl, rfl, rfl, rfl⟩, fun i _ => ⟨⟨0, by omega, rfl⟩, ⟨0, by omega, rfl⟩, ⟨0, by omega, rfl⟩, ⟨0, by omega, rfl⟩⟩⟩
  · refine ⟨⟨?_, ?_, ?_⟩, fun i => ?_, fun i => ?_⟩
    · rw [hz 5 (by omega) (by omega) (by omega) (by omega)]
      show e2 0 = _
      rw [b2 0 (by omega), a2 0 (by omega) (by omega)]
    · show e2 1 = _
      funext i
      rw [b3 i, a3 i, h6 i]
      by_cases hi : i < 256
      · rw [if_pos hi]
        by_cases h64 : i < 64
        · rw [if_neg (by omega), if_pos (by omega), if_pos (Or.inl h64)]
        · by_cases h223 : 223 < i
          · rw [if_pos (by omega), if_pos (Or.inr h223)]
          · rw [if_neg (by omega), if_neg (by omega), if_neg (by omega)]
      · rw [if_neg (by omega), if_neg (by omega), if_neg hi]
    · show e2 2 = _
      funext i
      rw [b2 2 (by omega), a4 i, h7 i]
      by_cases h64 : i < 64
      · rw [if_pos (by omega), if_pos h64]
      · rw [if_neg (by omega), if_neg h64]
    · rw [h6 i]
      split
      · split
        · exact Or.inr rfl
        · exact Or.inl rfl
      · exact Or.inl rfl
    · rw [h7 i]
      split
      · exact Or.inr rfl
      · exact Or.inl rfl
  · refine ⟨⟨?_, ?_⟩, fun i => ?_, ?_, ?_⟩
    · rw [hz 8 (by omega) (by omega) (by omega) (by omega)]
      show g 0 = _
      funext i
      rw [c2 i, ite_self]
    · show g 1 = _
      funext i
      rw [c3 i, h9 i]
      by_cases h8 : i < 8
      · rw [if_pos (by omega), if_pos h8]
      · rw [if_neg (by omega), if_neg h8]
    · rw [h9 i]
      split
      · exact ⟨15, by omega, rfl⟩
      · exact ⟨0, by omega, rfl⟩
    · rw [hz 8 (by omega) (by omega) (by omega) (by omega)]
    · rw [h9 0, if_pos (by omega)]
  · rw [hz 10 (by omega) (by omega) (by omega) (by omega), hz 11 (by omega) (by omega) (by omega) (by omega), hz 12 (by omega) (by omega) (by omega) (by omega), hz 13 (by omega) (by omega) (by omega) (by omega), hz 20 (by omega) (by omega) (by omega) (by omega), hz 21 (by omega) (by omega) (by omega) (by omega), hz 22 (by omega) (by omega) (by omega) (by omega)]
    refine ⟨⟨rfl, rfl, rfl, rfl, rfl, rfl, rfl⟩, 0, 0, by omega, rfl, by omega, rfl, fun k hk => by omega, fun k k' a z t a' z' t' hk => by omega⟩
  · rw [hz 15 (by omega) (by omega) (by omega) (by omega), hz 16 (by omega) (by omega) (by omega) (by omega), hz 17 (by omega) (by omega) (by omega) (by omega), hz 18 (by omega) (by omega) (by omega) (by omega), hz 23 (by omega) (by omega) (by omega) (by omega)]
    exact ⟨⟨rfl, rfl, rfl, rfl, rfl⟩, 0, by omega, rfl⟩
  · intro p hp
    rw [hz 19 (by omega) (by omega) (by omega) (by omega)]
    exact Or.inl ⟨rfl, rfl⟩
  · rw [hz 24 (by omega) (by omega) (by omega) (by omega), hz 25 (by omega) (by omega) (by omega) (by omega), hz 26 (by omega) (by omega) (by omega) (by omega), h28]
    exact ⟨⟨rfl, rfl, rfl, rfl⟩, ⟨0, by omega, rfl⟩, Or.inr rfl, Or.inl rfl⟩
