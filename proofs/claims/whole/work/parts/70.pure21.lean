/-! both scans give the same verdicts -/
theorem cnt_zero {P : Nat → Prop} : ∀ n : Nat, (∀ k, k < n → ¬ P k) → cnt P n = 0 := by
  intro n
  induction n with
  | zero => intro _; rfl
  | succ n ih =>
    intro h
    unfold cnt
    rw [ih (fun k hk => h k (by omega)), one_neg (h n (by omega))]
theorem mk2_loop (kx : St → Option St) {n : Nat} (hn : n ≤ 10) : ∀ (f k : Nat) (σ : St), k ≤ n → n - k < f → σ 23 0 = nI n → ∃ σ', zf_LS_make_L2 kx f σ (nI k) = kx σ' ∧ (∀ v, v ≠ 26 → σ' v = σ v) ∧ (∀ j, k ≤ j → j < n → σ' 26 j = 0) ∧ ∀ j, j < k → σ' 26 j = σ 26 j := by
  intro f
  induction f with
  | zero => intro k σ h1 h2; omega
  | succ f ih =>
    intro k σ hk hf h23
    rw [zf_LS_make_L2, zf_He_there, Option.bind_some, h23]
    by_cases h : k = n
    · subst h
      rw [if_pos (nI_le (Nat.le_refl _) (by omega))]
      exact ⟨σ, rfl, fun _ _ => rfl, fun j h1 h2 => by omega, fun _ _ => rfl⟩
    · rw [if_neg (nI_ge (show k < n by omega) (by omega)), px_ck (show k < 10 by omega) (by omega), px_cl (by omega), nI_1]
      obtain ⟨σ', g1, g2, g3, g4⟩ := ih (k + 1) (zz_put σ 26 k 0) (by omega) (by omega) (by simp [px_at, h23])
      refine ⟨σ', g1, fun v hv => by rw [g2 v hv, px_at, if_neg hv], fun j h1 h2 => ?_, fun j hj => ?_⟩
      · by_cases hjk : j = k
        · subst hjk
          rw [g4 j (by omega)]
          simp [px_at, px_upd]
        · exact g3 j (by omega) h2
      · rw [g4 j (by omega)]
        simp [px_at, px_upd]
        omega
theorem sc2_loop (kx : St → Option St) {n : Nat} (hn : n ≤ 10) : ∀ (f k : Nat) (τ : St), k ≤ n → n - k < f → τ 20 0 = nI n → ∃ τ', zf_Mo_scan_L2 kx f τ (nI k) = kx τ' ∧ (∀ v, v ≠ 14 → τ' v = τ v) ∧ (∀ j, k ≤ j → j < n → τ' 14 j = 0) ∧ ∀ j, j < k → τ' 14 j = τ 14 j := by
  intro f
  induction f with
  | zero => intro k τ h1 h2; omega
  | succ f ih =>
    intro k τ hk hf h20
    rw [zf_Mo_scan_L2, h20]
    by_cases h : k = n
    · subst h
      rw [if_pos (nI_le (Nat.le_refl _) (by omega))]
      exact ⟨τ, rfl, fun _ _ => rfl, fun j h1 h2 => by omega, fun _ _ => rfl⟩
    · rw [if_neg (nI_ge (show k < n by omega) (by omega)), px_ck (show k < 10 by omega) (by omega), px_cl (by omega), nI_1]
      obtain ⟨τ', g1, g2, g3, g4⟩ := ih (k + 1) (zz_put τ 14 k 0) (by omega) (by omega) (by simp [px_at, h20])
      refine ⟨τ', g1, fun v hv => by rw [g2 v hv, px_at, if_neg hv], fun j h1 h2 => ?_, fun j hj => ?_⟩
      · by_cases hjk : j = k
        · subst hjk
          rw [g4 j (by omega)]
          simp [px_at, px_upd]
        · exact g3 j (by omega) h2
      · rw [g4 j (by omega)]
        simp [px_at, px_upd]
        omega
theorem l21_eq (kx : St → Option St) : ∀ (f : Nat) (σ : St) (x2 : Int32), zf_LS_loseWithAllBehind_L21 kx f σ x2 = zf_LS_followAll_L48 kx f σ 4 x2 := by
  intro f
  induction f with
  | zero => intro σ x2; rfl
  | succ f ih =>
    intro σ x2
    rw [zf_LS_loseWithAllBehind_L21, zf_LS_followAll_L48]
    simp only [ih]
/-- one lost block, in both -/
theorem lose_sim {m n : Nat} {σ τ : St} (hS : SC m n σ τ) {σc τc : St} (hs : ∀ v, v ≠ 26 → v ≠ 27 → v ≠ 28 → σc v = σ v) (ht : ∀ v, v ≠ 14 → τc v = τ v) (hv : ∀ j, j < n → σc 26 j = τc 14 j) (h0 : ∀ j, j < n → τ 13 j ≠ 0 → τc 14 j = 0) {k : Nat} (hk : k < n) (hl : τ 13 k = 0) (hk0 : τc 14 k = 0) :
    ∃ σ' τ', zf_LS_loseWithAllBehind σc (nI k) = some σ' ∧ zf_Mo_drag (zz_put τc 14 k 3) (nI k) = some τ' ∧ (∀ v, v ≠ 26 → v ≠ 27 → v ≠ 28 → σ' v = σ v) ∧ (∀ v, v ≠ 14 → τ' v = τ v) ∧ (∀ j, j < n → σ' 26 j = τ' 14 j) ∧ ∀ j, j < n → τ 13 j ≠ 0 → τ' 14 j = 0 := by
  have hn := hS.1
  have hk10 : k < 10 := by omega
  have e26 : ∀ j, (zz_put (zz_put (zz_put σc 26 k 3) 27 0 (nI k)) 28 0 1) 26 j = if j = k then 3 else σc 26 j := by intro j; simp [px_at, px_upd]
  have e27 : (zz_put (zz_put (zz_put σc 26 k 3) 27 0 (nI k)) 28 0 1) 27 0 = nI k := by simp [px_at, px_upd]
  have e14 : ∀ j, (zz_put τc 14 k 3) 14 j = if j = k then 3 else τc 14 j := by intro j; simp [px_at, px_upd]
  have eag : ∀ j, j < n → (zz_put (zz_put (zz_put σc 26 k 3) 27 0 (nI k)) 28 0 1) 26 j = (zz_put τc 14 k 3) 14 j := by
    intro j hj
    rw [e26, e14, hv j hj]
  let A : Ph := (m, n, σ, τ, 4, 1, (zz_put (zz_put (zz_put σc 26 k 3) 27 0 (nI k)) 28 0 1) 26, 1, k, (fun j => j = k), (fun _ => False), (fun j => j < n ∧ τ 13 j = 0 ∧ j ≠ k ∧ ((zz_put τc 14 k 3) 14 j = 0 ∨ (zz_put τc 14 k 3) 14 j = 3)))
  have hok : ∀ j, A.ok j ↔ (j < n ∧ τ 13 j = 0 ∧ j ≠ k ∧ ((zz_put τc 14 k 3) 14 j = 0 ∨ (zz_put τc 14 k 3) 14 j = 3)) := fun j => Iff.rfl
  have hgood : A.good := by
    refine ⟨hS, ?_, fun j hj => ⟨hj.1, hj.2.1⟩, Or.inr (Or.inr ⟨rfl, rfl, Nat.le_refl _, hk, fun j hj hlj => ?_⟩)⟩
    · have h1 := cnt_add (P := fun j => j = k) (Q := A.ok) n (fun j _ h => h.2.2.2.1 h.1)
      have h2 := cnt_one (P := fun _ => False) (Q := fun j => j = k) (i := k) (fun h => h) n (fun j _ => ⟨fun h => Or.inr h, fun h => by rcases h with h | h; exact h.elim; exact h⟩)
      have h3 := cnt_zero (P := fun _ => False) n (fun _ _ h => h)
      rw [if_pos hk, h3] at h2
      show 1 + cnt A.ok n ≤ 10
      omega
    · show (j < n ∧ τ 13 j = 0 ∧ j ≠ k ∧ _) ↔ (j ≠ k ∧ ((zz_put (zz_put (zz_put σc 26 k 3) 27 0 (nI k)) 28 0 1) 26 j = 0 ∨ (zz_put (zz_put (zz_put σc 26 k 3) 27 0 (nI k)) 28 0 1) 26 j = 3))
      rw [eag j hj]
      exact ⟨fun h => ⟨h.2.2.1, h.2.2.2⟩, fun h => ⟨hj, hlj, h.1, h.2⟩⟩
  have hntk : ∀ j, A.ok j → ¬ (zz_put τc 14 k 3) 14 j = 4 := by
    intro j hj e
    rcases hj.2.2.2 with h | h
    · rw [h] at e; exact absurd e (by decide)
    · rw [h] at e; exact absurd e (by decide)
  have hP : PI A (zz_put (zz_put (zz_put σc 26 k 3) 27 0 (nI k)) 28 0 1) 1 := by
    refine ⟨⟨by simp [px_at, px_upd]; rfl, ?_⟩, ?_, ?_, ?_, fun _ _ => rfl, ?_, fun _ => e27⟩
    · have := cnt_zero (P := fun j => A.ok j ∧ (zz_put (zz_put (zz_put σc 26 k 3) 27 0 (nI k)) 28 0 1) 26 j = 4) n (fun j hj h => by
        rw [eag j hj] at h
        exact hntk j h.1 h.2)
      show 1 = 1 + cnt (fun j => A.ok j ∧ (zz_put (zz_put (zz_put σc 26 k 3) 27 0 (nI k)) 28 0 1) 26 j = 4) n
      rw [this]
    · intro t ht
      have : t = 0 := by omega
      subst this
      exact ⟨k, hk, hl, e27, Or.inl rfl⟩
    · intro j hj
      have hj' : j = k := hj
      subst hj'
      exact ⟨0, by omega, e27⟩
    · intro j hj e
      have e' : (zz_put (zz_put (zz_put σc 26 k 3) 27 0 (nI k)) 28 0 1) 26 j = 4 := e
      rw [eag j hj.1] at e'
      exact absurd e' (hntk j hj)
    · intro v h1 h2 h3
      rw [px_at, if_neg h3, px_at, if_neg h2, px_at, if_neg h1]
      exact hs v h1 h2 h3
  obtain ⟨σ', s', j1, j2, j3, j4⟩ := work_loop hgood (fun s9 => some s9) 300 0 _ 1 (by omega) (by omega) hP (fun t' h => by omega)
  have hfl := work_full hgood j2 (fun i hi => hi.elim) j4 (fun j hj => by have hj' : j = k := hj; rw [hj']; exact hk)
  obtain ⟨w1, w2⟩ := work_val hgood j2 hfl
  have hM : MI A ((zz_put τc 14 k 3) 14) (zz_put τc 14 k 3) := ⟨fun v hv => by rw [px_at, if_neg hv]; exact ht v hv, fun j hj e => absurd e (hntk j hj), fun _ _ => rfl⟩
  obtain ⟨τ', d1, d2, d3⟩ := drag_eq (A := A) (u0 := (zz_put τc 14 k 3) 14) ⟨hS, rfl, rfl, hk, fun _ => Iff.rfl, fun _ h => h, hok⟩ hM (fun j h => hntk j h.1 h.2)
  refine ⟨σ', τ', ?_, d1, fun v h1 h2 h3 => j2.2.2.2.2.2.1 v h1 h2 h3, fun v hv => d2.1 v hv, fun j hj => ?_, fun j hj hlj => ?_⟩
  · unfold zf_LS_loseWithAllBehind
    rw [px_ck hk10 (by omega), show zz_ck (α := St) (0 : Int32) 10 = zz_ck (nI 0) 10 from rfl, px_ck (show 0 < 10 by omega) (by omega), l21_eq, px_cl (by omega)]
    exact j1
  · by_cases hC : A.C j
    · rw [w1 j hC, d3 j hC]
    · rw [w2 j hC, d2.2.2 j (fun h => hC (d2.2.1 j h.1 h.2))]
      exact eag j hj
  · have hC : ¬ A.C j := fun h => hlj ((hok j).mp (Cl.ok h)).2.1
    rw [d2.2.2 j (fun h => hC (d2.2.1 j h.1 h.2)), e14, if_neg (fun e => hlj (by rw [e]; exact hl))]
    exact h0 j hj hlj
theorem lost_loop {m n : Nat} {σ τ : St} (hS : SC m n σ τ) (kx kx' : St → Option St) :
    ∀ (f k : Nat) (σc τc : St), k ≤ n → n - k < f → (∀ v, v ≠ 26 → v ≠ 27 → v ≠ 28 → σc v = σ v) → (∀ v, v ≠ 14 → τc v = τ v) → (∀ j, j < n → σc 26 j = τc 14 j) → (∀ j, j < n → τ 13 j ≠ 0 → τc 14 j = 0) →
    ∃ σ' τ', zf_LS_make_L43 kx f σc (nI k) = kx σ' ∧ zf_Mo_scan_L183 kx' f τc (nI k) = kx' τ' ∧ (∀ v, v ≠ 26 → v ≠ 27 → v ≠ 28 → σ' v = σ v) ∧ (∀ v, v ≠ 14 → τ' v = τ v) ∧ (∀ j, j < n → σ' 26 j = τ' 14 j) ∧ ∀ j, j < n → τ 13 j ≠ 0 → τ' 14 j = 0 := by
  have hn := hS.1
  intro f
  induction f with
  | zero => intro k σc τc h1 h2; omega
  | succ f ih =>
    intro k σc τc hk hf hs ht hv h0
    have h23 : σ 23 0 = nI n := by rw [hS.2.2.1.2.2.2.1.1.2.2.2.2.1, hS.2.2.2]
    rw [zf_LS_make_L43, zf_Mo_scan_L183, zf_He_there, Option.bind_some, hs 23 (by omega) (by omega) (by omega), ht 20 (by omega), h23, hS.2.2.2]
    by_cases h : k = n
    · subst h
      rw [if_pos (nI_le (Nat.le_refl _) (by omega)), if_pos (nI_le (Nat.le_refl _) (by omega))]
      exact ⟨σc, τc, rfl, rfl, hs, ht, hv, h0⟩
    · have hkn : k < n := by omega
      have hk10 : k < 10 := by omega
      obtain ⟨a, z, t, hb, htt, s1, s2, s3⟩ := hS.blk hkn
      have l0 := px_lt0 (show t < 2 ^ 31 by omega)
      have z0 := px_eq0 (show t < 2 ^ 31 by omega)
      rw [if_neg (nI_ge hkn (by omega)), if_neg (nI_ge hkn (by omega)), px_live σc hk10, Option.bind_some]
      simp only [px_ck hk10 (show 10 < 2 ^ 31 by omega), px_cl (show k < 2 ^ 31 by omega), nI_1, hs 22 (by omega) (by omega) (by omega), s3, ht 13 (by omega), hb.2.2.1, hv k hkn]
      by_cases ht0 : t = 0
      · have hl : τ 13 k = 0 := by rw [hb.2.2.1]; exact z0.mpr ht0
        rw [if_pos (z0.mpr ht0), if_neg (show ¬ (1 : Int32) = 0 by decide), if_neg (fun e => (l0.mp e) ht0)]
        by_cases h14 : τc 14 k = 0
        · rw [if_pos h14, if_pos h14]
          obtain ⟨σ1, τ1, g1, g2, g3, g4, g5, g6⟩ := lose_sim hS hs ht hv h0 hkn hl h14
          rw [g1, g2, Option.bind_some, Option.bind_some]
          exact ih (k + 1) σ1 τ1 (by omega) (by omega) g3 g4 g5 g6
        · rw [if_neg h14, if_neg h14]
          exact ih (k + 1) σc τc (by omega) (by omega) hs ht hv h0
      · rw [if_neg (fun e => ht0 (z0.mp e)), if_pos rfl, if_pos (l0.mpr ht0)]
        exact ih (k + 1) σc τc (by omega) (by omega) hs ht hv h0
theorem scan_sim {m n : Nat} {σ τ : St} (hS : SC m n σ τ) : ∃ σ' τ', zf_LS_make σ = some σ' ∧ zf_Mo_scan τ = some τ' ∧ (∀ v, v ≠ 26 → v ≠ 27 → v ≠ 28 → σ' v = σ v) ∧ (∀ v, v ≠ 14 → τ' v = τ v) ∧ (∀ j, j < n → σ' 26 j = τ' 14 j) ∧ ∀ j, j < n → τ 13 j ≠ 0 → τ' 14 j = 0 := by
  have hn := hS.1
  have h23 : σ 23 0 = nI n := by rw [hS.2.2.1.2.2.2.1.1.2.2.2.2.1, hS.2.2.2]
  obtain ⟨σz, a1, a2, a3, -⟩ := mk2_loop (fun s4 => (zf_LS_followAll (zz_put s4 28 0 (0 : Int32)) (1 : Int32)).bind (fun u5 => (zf_LS_followAll u5 (2 : Int32)).bind (fun u6 => zf_LS_make_L43 (fun s16 => some s16) 300 u6 (0 : Int32)))) hn 300 0 σ (by omega) (by omega) h23
  have a1' : zf_LS_make σ = _ := a1
  obtain ⟨τz, b1, b2, b3, -⟩ := sc2_loop (fun s2 => zf_Mo_scan_L25 (fun s14 => zf_Mo_scan_L99 (fun s29 => zf_Mo_scan_L183 (fun s35 => some s35) 300 s29 (0 : Int32)) 300 s14 (0 : Int32)) 300 s2 (0 : Int32)) hn 300 0 τ (by omega) (by omega) hS.2.2.2
  have b1' : zf_Mo_scan τ = _ := b1
  have z26 : (zz_put σz 28 0 0) 26 = σz 26 := by simp [px_at]
  let A1 : Ph := (m, n, σ, τ, 1, 2, σz 26, 0, 0, (fun _ => False), RT τ n 2, (fun k => k < n ∧ τ 13 k = 0))
  have hg1 : A1.good := by
    refine ⟨hS, ?_, fun k hk => hk, Or.inl ⟨rfl, rfl, fun k hk hl => ⟨fun _ => a3 k (by omega) hk, fun _ => ⟨hk, hl⟩⟩⟩⟩
    have := cnt_n A1.ok n
    show 0 + cnt A1.ok n ≤ 10
    omega
  have hP1 : PI A1 (zz_put σz 28 0 0) 0 := by
    refine ⟨⟨by simp [px_at, px_upd]; rfl, ?_⟩, fun t ht => by omega, fun k hk => hk.elim, ?_, fun k _ => by rw [z26]; rfl, ?_, fun h => absurd h (show ¬ (1 : Int32) = 4 by decide)⟩
    · have := cnt_zero (P := fun k => A1.ok k ∧ (zz_put σz 28 0 0) 26 k = 1) n (fun k hk h => by
        rw [z26, a3 k (by omega) hk] at h
        exact absurd h.2 (by decide))
      show 0 = 0 + cnt (fun k => A1.ok k ∧ (zz_put σz 28 0 0) 26 k = 1) n
      rw [this]
    · intro k hk e
      rw [z26, a3 k (by omega) hk.1] at e
      exact absurd e (show ¬ (0 : Int32) = 1 by decide)
    · intro v h1 h2 h3
      rw [px_at, if_neg h3]
      exact a2 v h1
  obtain ⟨σ1, s1, c1, c2, c3⟩ := all_inv hg1 rfl (fun k hk => hk.elim) hP1
  obtain ⟨w1, w2⟩ := work_val hg1 c2 c3
  have c1' : zf_LS_followAll (zz_put σz 28 0 0) 1 = some σ1 := c1
  have ok1 : ∀ k, A1.C k → k < n ∧ τ 13 k = 0 := fun k hk => Cl.ok hk
  have v1a : ∀ k, A1.C k → σ1 26 k = 1 := w1
  have v1b : ∀ k, k < n → ¬ A1.C k → σ1 26 k = 0 := fun k hk h => by
    rw [w2 k h]
    exact a3 k (by omega) hk
  -- the reference's first rounds
  have hM1 : MI A1 (τz 14) τz := by
    refine ⟨b2, fun k hk e => ?_, fun _ _ => rfl⟩
    rw [b3 k (by omega) hk.1] at e
    exact absurd e (show ¬ (0 : Int32) = 1 by decide)
  obtain ⟨τ1, d1, d2, d3⟩ := r25 (A := A1) (u0 := τz 14) ⟨hS, rfl, rfl, fun _ => Iff.rfl, fun k hk => b3 k (by omega) hk, fun _ h => h, rfl⟩ (fun s14 => zf_Mo_scan_L99 (fun s29 => zf_Mo_scan_L183 (fun s35 => some s35) 300 s29 (0 : Int32)) 300 s14 (0 : Int32)) 300 0 τz (by omega) (by omega) hM1 (Or.inr (by omega))
  have u1a : ∀ k, A1.C k → τ1 14 k = 1 := d3
  have u1b : ∀ k, k < n → ¬ A1.C k → τ1 14 k = 0 := fun k hk h => by
    rw [d2.2.2 k (fun hh => h (d2.2.1 k hh.1 hh.2))]
    exact b3 k (by omega) hk
  -- the second phase
  let A2 : Ph := (m, n, σ, τ, 2, 1, σ1 26, s1, 0, A1.C, RT τ n 1, (fun k => k < n ∧ τ 13 k = 0 ∧ ¬ A1.C k))
  have hg2 : A2.good := by
    refine ⟨hS, ?_, fun k hk => ⟨hk.1, hk.2.1⟩, Or.inr (Or.inl ⟨rfl, rfl, fun k hk hl => ⟨fun h => v1b k hk h.2.2, fun h => ⟨hk, hl, fun hc => ?_⟩⟩⟩)⟩
    · have h1 : s1 = 0 + cnt (fun k => A1.ok k ∧ σ1 26 k = 1) n := c2.1.2
      have h2 := cnt_add (P := fun k => A1.ok k ∧ σ1 26 k = 1) (Q := A2.ok) n (fun k hk h => h.2.2.2 (c2.2.2.2.1 k h.1.1 h.1.2).1)
      show s1 + cnt A2.ok n ≤ 10
      omega
    · have h' : σ1 26 k = 0 := h
      rw [v1a k hc] at h'
      exact absurd h' (by decide)
  have hP2 : PI A2 σ1 s1 := by
    refine ⟨⟨c2.1.1, ?_⟩, fun t ht => ?_, fun k hk => (c2.2.2.2.1 k (Cl.ok hk) (w1 k hk)).2, fun k hk e => ?_, fun _ _ => rfl, c2.2.2.2.2.2.1, fun h => absurd h (show ¬ (2 : Int32) = 4 by decide)⟩
    · have := cnt_zero (P := fun k => A2.ok k ∧ σ1 26 k = 2) n (fun k hk h => by
        rw [v1b k hk h.1.2.2] at h
        exact absurd h.2 (by decide))
      show s1 = s1 + cnt (fun k => A2.ok k ∧ σ1 26 k = 2) n
      rw [this]
      rfl
    · obtain ⟨k, k1, k2, k3, k4⟩ := c2.2.1 t ht
      refine ⟨k, k1, k2, k3, Or.inl ?_⟩
      rcases k4 with h | h
      · exact h.elim
      · exact h
    · rw [v1b k hk.1 hk.2.2] at e
      exact absurd e (show ¬ (0 : Int32) = 2 by decide)
  obtain ⟨σ2, s2, e1, e2, e3⟩ := all_inv hg2 rfl (fun k hk => (ok1 k hk).1) hP2
  obtain ⟨x1, x2⟩ := work_val hg2 e2 e3
  have e1' : zf_LS_followAll σ1 2 = some σ2 := e1
  have hM2 : MI A2 (τ1 14) τ1 := by
    refine ⟨d2.1, fun k hk e => ?_, fun _ _ => rfl⟩
    rw [u1b k hk.1 hk.2.2] at e
    exact absurd e (show ¬ (0 : Int32) = 2 by decide)
  obtain ⟨τ2, f1, f2, f3⟩ := r99 (A := A2) (u0 := τ1 14) ⟨hS, rfl, rfl, fun k => ⟨fun h => ⟨h.1, h.2.1, u1b k h.1 h.2.2⟩, fun h => ⟨h.1, h.2.1, fun hc => by
      have h' := h.2.2
      rw [u1a k hc] at h'
      exact absurd h' (by decide)⟩⟩, fun k hk => by
      by_cases hc : A1.C k
      · exact Or.inr (u1a k hc)
      · exact Or.inl (u1b k hk hc), fun k => ⟨fun h => ⟨(ok1 k h).1, (ok1 k h).2, u1a k h⟩, fun h => Classical.byContradiction (fun hc => by
      have h' := h.2.2
      rw [u1b k h.1 hc] at h'
      exact absurd h' (by decide))⟩, rfl, fun k hk hr => hk.2.2 (Cl.root ⟨hk.1, hk.2.1⟩ hr)⟩ (fun s29 => zf_Mo_scan_L183 (fun s35 => some s35) 300 s29 (0 : Int32)) 300 0 τ1 (by omega) (by omega) hM2 (Or.inr (by omega))
  have hag : ∀ j, j < n → σ2 26 j = τ2 14 j := by
    intro j hj
    by_cases hC : A2.C j
    · rw [x1 j hC, f3 j hC]
    · rw [x2 j hC, f2.2.2 j (fun h => hC (f2.2.1 j h.1 h.2))]
      show σ1 26 j = τ1 14 j
      by_cases hc : A1.C j
      · rw [v1a j hc, u1a j hc]
      · rw [v1b j hj hc, u1b j hj hc]
  have hz : ∀ j, j < n → τ 13 j ≠ 0 → τ2 14 j = 0 := by
    intro j hj hl
    have hC : ¬ A2.C j := fun h => hl (Cl.ok h).2.1
    rw [f2.2.2 j (fun h => hC (f2.2.1 j h.1 h.2))]
    exact u1b j hj (fun h => hl (ok1 j h).2)
  obtain ⟨σ3, τ3, g1, g2, g3, g4, g5, g6⟩ := lost_loop hS (fun s16 => some s16) (fun s35 => some s35) 300 0 σ2 τ2 (by omega) (by omega) (fun v h1 h2 h3 => e2.2.2.2.2.2.1 v h1 h2 h3) (fun v hv => f2.1 v hv) hag hz
  refine ⟨σ3, τ3, ?_, ?_, g3, g4, g5, g6⟩
  · rw [a1', c1', Option.bind_some, e1', Option.bind_some]
    exact g1
  · rw [b1']
    exact d1.trans (f1.trans g2)
