/-! what the reference finds to lead where -/
theorem leads_eq {m n : Nat} {σ0 τ0 : St} (hS : SC m n σ0 τ0) (τ : St) (hf : ∀ v, v ≠ 14 → τ v = τ0 v) (x : Int32) {i : Nat} (hi : i < n) :
    ∃ r : Nat, r ≤ 2 ∧ zf_Mo_leads τ x (nI i) = some (nI r) ∧ ∀ w, w = 1 ∨ w = 2 → (w ≤ r ↔ LD τ0 n w x i) := by
  have hn := hS.1
  have hi10 : i < 10 := by omega
  obtain ⟨a, z, t, hb, ht, -⟩ := hS.blk hi
  have l0 := px_lt0 (show t < 2 ^ 31 by omega)
  have z0 := px_eq0 (show t < 2 ^ 31 by omega)
  unfold zf_Mo_leads
  simp only [px_ck hi10 (show 10 < 2 ^ 31 by omega), px_cl (show i < 2 ^ 31 by omega), hf 13 (by omega), hf 11 (by omega), hf 12 (by omega)]
  by_cases h1 : 0 < τ0 13 i
  · rw [if_pos h1]
    refine ⟨0, by omega, rfl, fun w hw => ⟨fun h => by omega, fun h => ?_⟩⟩
    have := h.2.1
    rw [this] at h1
    exact absurd h1 (by decide)
  · rw [if_neg h1]
    have hl : τ0 13 i = 0 := by
      rw [hb.2.2.1] at h1 ⊢
      exact z0.mpr (Decidable.byContradiction (fun e => h1 (l0.mpr e)))
    by_cases h2 : x < τ0 11 i
    · rw [if_pos h2]
      exact ⟨0, by omega, rfl, fun w hw => ⟨fun h => by omega, fun h => absurd h2 h.2.2.1⟩⟩
    · rw [if_neg h2]
      by_cases h3 : x < τ0 11 i + τ0 12 i
      · rw [if_pos h3]
        by_cases h4 : x = τ0 11 i
        · rw [if_pos h4]
          exact ⟨2, by omega, rfl, fun w hw => ⟨fun _ => ⟨hi, hl, h2, h3, fun _ => h4⟩, fun _ => by omega⟩⟩
        · rw [if_neg h4]
          exact ⟨1, by omega, rfl, fun w hw => ⟨fun h => ⟨hi, hl, h2, h3, fun e => by omega⟩, fun h => by
            rcases hw with rfl | rfl
            · omega
            · exact absurd (h.2.2.2.2 rfl) h4⟩⟩
      · rw [if_neg h3]
        exact ⟨0, by omega, rfl, fun w hw => ⟨fun h => by omega, fun h => absurd h.2.2.2.1 h3⟩⟩
theorem wl_loop {m n : Nat} {σ0 τ0 : St} (hS : SC m n σ0 τ0) (τ : St) (hf : ∀ v, v ≠ 14 → τ v = τ0 v) (kx : Int32 → Option Int32) {i e : Nat} (hi : i < n) (he : e ≤ 256) :
    ∀ (f x r0 : Nat), e + 4 - x ≤ 4 * f → x ≤ e → 1 ≤ f → r0 ≤ 2 →
    ∃ r : Nat, r ≤ 2 ∧ zf_Mo_wordsLead_L6 τ kx f (nI e) (nI i) (nI r0) (nI x) = kx (nI r) ∧ ∀ w, w = 1 ∨ w = 2 → (w ≤ r ↔ (w ≤ r0 ∨ WD τ0 n w x e i)) := by
  intro f
  induction f with
  | zero => intro x r0 h1 h2 h3; omega
  | succ f ih =>
    intro x r0 hfu hxe _ hr0
    rw [zf_Mo_wordsLead_L6]
    have s3 : nI x + 3 = nI (x + 3) := by rw [show (3 : Int32) = nI 3 from rfl, nI_add]
    have s4 : nI x + 4 = nI (x + 4) := by rw [show (4 : Int32) = nI 4 from rfl, nI_add]
    have s1 : nI x + 1 = nI (x + 1) := nI_1 x
    have s2 : nI x + 2 = nI (x + 2) := by rw [show (2 : Int32) = nI 2 from rfl, nI_add]
    rw [s3]
    by_cases h : e ≤ x + 3
    · rw [if_pos (nI_le h (by omega))]
      refine ⟨r0, hr0, rfl, fun w hw => ⟨fun h => Or.inl h, fun h' => ?_⟩⟩
      rcases h' with h' | ⟨y, h1, h2, h3, -⟩
      · exact h'
      · omega
    · rw [if_neg (nI_ge (by omega) (by omega))]
      have hx4 : x + 4 ≤ 256 := by omega
      have next : ∀ r1 : Nat, r1 ≤ 2 → (∀ w, w = 1 ∨ w = 2 → (w ≤ r1 ↔ (w ≤ r0 ∨ (us τ0 x ∧ LD τ0 n w (vl τ0 x) i)))) → ∃ r : Nat, r ≤ 2 ∧ zf_Mo_wordsLead_L6 τ kx f (nI e) (nI i) (nI r1) (nI (x + 4)) = kx (nI r) ∧ ∀ w, w = 1 ∨ w = 2 → (w ≤ r ↔ (w ≤ r0 ∨ WD τ0 n w x e i)) := by
        intro r1 hr1 hw1
        obtain ⟨r, g1, g2, g3⟩ := ih (x + 4) r1 (by omega) (by omega) (by omega) hr1
        refine ⟨r, g1, g2, fun w hw => ?_⟩
        rw [g3 w hw, hw1 w hw]
        constructor
        · rintro ((h | ⟨h, h'⟩) | ⟨y, h1, h2, h3, h4⟩)
          · exact Or.inl h
          · exact Or.inr ⟨x, by omega, by omega, by omega, h, h'⟩
          · exact Or.inr ⟨y, by omega, by omega, h3, h4⟩
        · rintro (h | ⟨y, h1, h2, h3, h4, h5⟩)
          · exact Or.inl (Or.inl h)
          · by_cases hyx : y = x
            · subst hyx; exact Or.inl (Or.inr ⟨h4, h5⟩)
            · exact Or.inr ⟨y, by omega, by omega, h3, h4, h5⟩
      obtain ⟨K, k1, k2⟩ := wk hS hx4
      have k1' : zf_Mo_wordKnown τ (nI x) = some K := by
        rw [← k1]
        unfold zf_Mo_wordKnown
        rw [hf 7 (by omega)]
      have kw : zf_Mo_word τ (nI x) = some (vl τ0 x) := by
        rw [← word_eq (τ := τ0) hx4]
        unfold zf_Mo_word
        rw [hf 5 (by omega)]
      rw [k1', Option.bind_some, s4]
      by_cases h15 : K = 15
      · rw [if_pos h15]
        simp only [s1, s2, s3, px_ck (show x < 256 by omega) (show 256 < 2 ^ 31 by omega), px_ck (show x + 1 < 256 by omega) (show 256 < 2 ^ 31 by omega), px_ck (show x + 2 < 256 by omega) (show 256 < 2 ^ 31 by omega), px_ck (show x + 3 < 256 by omega) (show 256 < 2 ^ 31 by omega), px_cl (show x < 2 ^ 31 by omega), px_cl (show x + 1 < 2 ^ 31 by omega), px_cl (show x + 2 < 2 ^ 31 by omega), px_cl (show x + 3 < 2 ^ 31 by omega), hf 6 (by omega)]
        by_cases h4 : τ0 6 x + τ0 6 (x + 1) + τ0 6 (x + 2) + τ0 6 (x + 3) = 4
        · have hu : us τ0 x := ⟨(opn hS x).mp h4, k2.mp h15⟩
          obtain ⟨r, l1, l2, l3⟩ := leads_eq hS τ hf (vl τ0 x) hi
          rw [if_pos h4, kw, Option.bind_some, l2, Option.bind_some]
          by_cases hle : r ≤ r0
          · rw [if_pos (nI_le hle (by omega))]
            refine next r0 hr0 (fun w hw => ⟨fun h => Or.inl h, fun h => ?_⟩)
            rcases h with h | ⟨-, h⟩
            · exact h
            · have := (l3 w hw).mpr h; omega
          · rw [if_neg (nI_ge (by omega) (by omega))]
            refine next r l1 (fun w hw => ⟨fun h => Or.inr ⟨hu, (l3 w hw).mp h⟩, fun h => ?_⟩)
            rcases h with h | ⟨-, h⟩
            · omega
            · exact (l3 w hw).mpr h
        · rw [if_neg h4]
          exact next r0 hr0 (fun w hw => ⟨fun h => Or.inl h, fun h => by
            rcases h with h | ⟨h, -⟩
            · exact h
            · exact absurd ((opn hS x).mpr h.1) h4⟩)
      · rw [if_neg h15]
        exact next r0 hr0 (fun w hw => ⟨fun h => Or.inl h, fun h => by
          rcases h with h | ⟨h, -⟩
          · exact h
          · exact absurd (k2.mpr h.2) h15⟩)
theorem wl_eq {m n : Nat} {σ0 τ0 : St} (hS : SC m n σ0 τ0) (τ : St) (hf : ∀ v, v ≠ 14 → τ v = τ0 v) {i a e : Nat} (hi : i < n) (hae : a ≤ e) (he : e ≤ 256) :
    ∃ r : Nat, r ≤ 2 ∧ zf_Mo_wordsLead τ (nI a) (nI e) (nI i) = some (nI r) ∧ ∀ w, w = 1 ∨ w = 2 → (w ≤ r ↔ WD τ0 n w a e i) := by
  obtain ⟨r, h1, h2, h3⟩ := wl_loop hS τ hf (fun y_4 => some y_4) hi he 300 a 0 (by omega) hae (by omega) (by omega)
  refine ⟨r, h1, h2, fun w hw => ?_⟩
  rw [h3 w hw]
  exact ⟨fun h => by rcases h with h | h; omega; exact h, fun h => Or.inr h⟩
theorem bl_eq {m n : Nat} {σ0 τ0 : St} (hS : SC m n σ0 τ0) (τ : St) (hf : ∀ v, v ≠ 14 → τ v = τ0 v) {i j : Nat} (hi : i < n) (hj : j < n) :
    ∃ r : Nat, r ≤ 2 ∧ zf_Mo_blockLeads τ (nI j) (nI i) = some (nI r) ∧ ∀ w, w = 1 ∨ w = 2 → (w ≤ r ↔ ED τ0 n w j i) := by
  have hn := hS.1
  have hj10 : j < 10 := by omega
  obtain ⟨a, z, t, hb, ht, -⟩ := hS.blk hj
  have hr := rmz_le hb.2.2.2.2.2.1
  have hl4 := hb.2.2.2.2.2.2.1
  obtain ⟨r, h1, h2, h3⟩ := wl_eq hS τ hf (a := a) (e := a + z) hi (by omega) (by omega)
  refine ⟨r, h1, ?_, fun w hw => ?_⟩
  · unfold zf_Mo_blockLeads
    rw [px_ck hj10 (by omega), px_ck hj10 (by omega), px_ck hj10 (by omega), px_cl (by omega), hf 11 (by omega), hf 12 (by omega), hb.1, hb.2.1, nI_add, h2, Option.bind_some]
  · rw [h3 w hw]
    unfold ED
    rw [hb.1, hb.2.1, px_cl (by omega), px_cl (by omega)]
theorem rl_loop {m n : Nat} {σ0 τ0 : St} (hS : SC m n σ0 τ0) (τ : St) (hf : ∀ v, v ≠ 14 → τ v = τ0 v) (kx : Int32 → Option Int32) {i : Nat} (hi : i < n) :
    ∀ (f q r0 : Nat), q ≤ 8 → 8 - q < f → r0 ≤ 2 →
    ∃ r : Nat, r ≤ 2 ∧ zf_Mo_rootsLead_L11 τ kx f (nI i) (nI r0) (nI q) = kx (nI r) ∧ ∀ w, w = 1 ∨ w = 2 → (w ≤ r ↔ (w ≤ r0 ∨ ∃ g : Nat, q ≤ g ∧ g < 8 ∧ τ0 9 g = 15 ∧ LD τ0 n w (τ0 8 g) i)) := by
  intro f
  induction f with
  | zero => intro q r0 h1 h2; omega
  | succ f ih =>
    intro q r0 hq hfu hr0
    rw [zf_Mo_rootsLead_L11]
    by_cases h : q = 8
    · subst h
      rw [if_pos (by decide)]
      refine ⟨r0, hr0, rfl, fun w hw => ⟨fun h => Or.inl h, fun h' => ?_⟩⟩
      rcases h' with h' | ⟨g, h1, h2, -⟩
      · exact h'
      · omega
    · have hq8 : q < 8 := by omega
      have next : ∀ r1 : Nat, r1 ≤ 2 → (∀ w, w = 1 ∨ w = 2 → (w ≤ r1 ↔ (w ≤ r0 ∨ (τ0 9 q = 15 ∧ LD τ0 n w (τ0 8 q) i)))) → ∃ r : Nat, r ≤ 2 ∧ zf_Mo_rootsLead_L11 τ kx f (nI i) (nI r1) (nI (q + 1)) = kx (nI r) ∧ ∀ w, w = 1 ∨ w = 2 → (w ≤ r ↔ (w ≤ r0 ∨ ∃ g : Nat, q ≤ g ∧ g < 8 ∧ τ0 9 g = 15 ∧ LD τ0 n w (τ0 8 g) i)) := by
        intro r1 hr1 hw1
        obtain ⟨r, g1, g2, g3⟩ := ih (q + 1) r1 (by omega) (by omega) hr1
        refine ⟨r, g1, g2, fun w hw => ?_⟩
        rw [g3 w hw, hw1 w hw]
        constructor
        · rintro ((h | ⟨h, h'⟩) | ⟨y, h1, h2, h3⟩)
          · exact Or.inl h
          · exact Or.inr ⟨q, by omega, hq8, h, h'⟩
          · exact Or.inr ⟨y, by omega, h2, h3⟩
        · rintro (h | ⟨y, h1, h2, h3, h4⟩)
          · exact Or.inl (Or.inl h)
          · by_cases hyx : y = q
            · subst hyx; exact Or.inl (Or.inr ⟨h3, h4⟩)
            · exact Or.inr ⟨y, by omega, h2, h3, h4⟩
      rw [if_neg (show ¬ (8 : Int32) ≤ nI q from nI_ge (b := 8) (by omega) (by omega)), px_ck hq8 (by omega), px_ck hq8 (by omega), px_cl (by omega), hf 9 (by omega), hf 8 (by omega), nI_1]
      by_cases h15 : τ0 9 q = 15
      · obtain ⟨r, l1, l2, l3⟩ := leads_eq hS τ hf (τ0 8 q) hi
        rw [if_pos h15, l2, Option.bind_some]
        by_cases hle : r ≤ r0
        · rw [if_pos (nI_le hle (by omega))]
          refine next r0 hr0 (fun w hw => ⟨fun h => Or.inl h, fun h => ?_⟩)
          rcases h with h | ⟨-, h⟩
          · exact h
          · have := (l3 w hw).mpr h; omega
        · rw [if_neg (nI_ge (by omega) (by omega))]
          refine next r l1 (fun w hw => ⟨fun h => Or.inr ⟨h15, (l3 w hw).mp h⟩, fun h => ?_⟩)
          rcases h with h | ⟨-, h⟩
          · omega
          · exact (l3 w hw).mpr h
      · rw [if_neg h15, if_pos (nI_pos' (by omega))]
        exact next r0 hr0 (fun w hw => ⟨fun h => Or.inl h, fun h => by
          rcases h with h | ⟨h, -⟩
          · exact h
          · exact absurd h h15⟩)
theorem roots_eq {m n : Nat} {σ0 τ0 : St} (hS : SC m n σ0 τ0) (τ : St) (hf : ∀ v, v ≠ 14 → τ v = τ0 v) {i : Nat} (hi : i < n) :
    ∃ r : Nat, r ≤ 2 ∧ zf_Mo_rootsLead τ (nI i) = some (nI r) ∧ ∀ w, w = 1 ∨ w = 2 → (w ≤ r ↔ RT τ0 n w i) := by
  obtain ⟨r0, h1, h2, h3⟩ := wl_eq hS τ hf (a := 0) (e := 64) hi (by omega) (by omega)
  have h2' : zf_Mo_wordsLead τ 0 64 (nI i) = some (nI r0) := h2
  obtain ⟨r, g1, g2, g3⟩ := rl_loop hS τ hf (fun y_2 => some y_2) hi 300 1 r0 (by omega) (by omega) h1
  refine ⟨r, g1, ?_, fun w hw => ?_⟩
  · unfold zf_Mo_rootsLead
    rw [h2', Option.bind_some]
    exact g2
  · rw [g3 w hw, h3 w hw]
    unfold RT
    constructor
    · rintro (h | ⟨q, a1, a2, a3⟩)
      · exact Or.inl h
      · exact Or.inr ⟨q, a2, a3⟩
    · rintro (h | ⟨q, a2, a3, a4⟩)
      · exact Or.inl h
      · by_cases hq : q = 0
        · subst hq
          exfalso
          have h0 : τ0 8 0 = 0 := hS.2.2.1.2.2.1.2.2.1
          obtain ⟨a, z, t, y, hb, e, c1, c2⟩ := a4.nat hS
          rw [h0] at e
          have hl4 := hb.2.2.2.2.2.2.1
          have hz := hb.2.2.2.2.2.1
          have := (nI_eq (a := 0) (by omega) (by omega)).mp e
          have := hb.2.2.2.1
          omega
        · exact Or.inr ⟨q, by omega, a2, a3, a4⟩
theorem led_loop {m n : Nat} {σ0 τ0 : St} (hS : SC m n σ0 τ0) (τ : St) (hf : ∀ v, v ≠ 14 → τ v = τ0 v) {i w : Nat} (hw : w = 1 ∨ w = 2) (hi : i < n) (c : Int32) :
    ∀ (f k : Nat), k ≤ n → n - k < f → (zf_Mo_led_L3 τ (some 0) f (nI i) c (nI w) (nI k) = some 1 ∧ ∃ j, k ≤ j ∧ j < n ∧ τ0 13 j = 0 ∧ τ 14 j = c ∧ ED τ0 n w j i) ∨ (zf_Mo_led_L3 τ (some 0) f (nI i) c (nI w) (nI k) = some 0 ∧ ∀ j, k ≤ j → j < n → τ0 13 j = 0 → τ 14 j = c → ¬ ED τ0 n w j i) := by
  have hn := hS.1
  intro f
  induction f with
  | zero => intro k h1 h2; omega
  | succ f ih =>
    intro k hk hfu
    rw [zf_Mo_led_L3, hf 20 (by omega), hS.2.2.2]
    by_cases h : k = n
    · subst h
      rw [if_pos (nI_le (Nat.le_refl _) (by omega))]
      exact Or.inr ⟨rfl, fun j h1 h2 => by omega⟩
    · have hk10 : k < 10 := by omega
      have hkn : k < n := by omega
      rw [if_neg (nI_ge hkn (by omega)), px_ck hk10 (by omega), px_ck hk10 (by omega), px_cl (by omega), hf 13 (by omega), nI_1, px_k1]
      have next : (τ0 13 k = 0 → τ 14 k = c → ¬ ED τ0 n w k i) → (zf_Mo_led_L3 τ (some 0) f (nI i) c (nI w) (nI (k + 1)) = some 1 ∧ ∃ j, k ≤ j ∧ j < n ∧ τ0 13 j = 0 ∧ τ 14 j = c ∧ ED τ0 n w j i) ∨ (zf_Mo_led_L3 τ (some 0) f (nI i) c (nI w) (nI (k + 1)) = some 0 ∧ ∀ j, k ≤ j → j < n → τ0 13 j = 0 → τ 14 j = c → ¬ ED τ0 n w j i) := by
        intro hno
        rcases ih (k + 1) (by omega) (by omega) with ⟨h1, j, h2, h3⟩ | ⟨h1, h2⟩
        · exact Or.inl ⟨h1, j, by omega, h3⟩
        · refine Or.inr ⟨h1, fun j hj1 hj2 => ?_⟩
          by_cases hjk : j = k
          · subst hjk; exact hno
          · exact h2 j (by omega) hj2
      by_cases h13 : τ0 13 k = 0
      · rw [if_pos h13]
        by_cases h14 : τ 14 k = c
        · rw [if_pos h14]
          obtain ⟨r, l1, l2, l3⟩ := bl_eq hS τ hf hi hkn
          rw [l2, Option.bind_some]
          by_cases hlt : r < w
          · rw [if_pos (nI_lt hlt (by omega))]
            exact next (fun _ _ he => by have := (l3 w hw).mpr he; omega)
          · rw [if_neg (nI_nlt (by omega) (by omega))]
            exact Or.inl ⟨rfl, k, by omega, hkn, h13, h14, (l3 w hw).mp (by omega)⟩
        · rw [if_neg h14]
          exact next (fun _ e => absurd e h14)
      · rw [if_neg h13]
        exact next (fun e => absurd e h13)
theorem led_eq {m n : Nat} {σ0 τ0 : St} (hS : SC m n σ0 τ0) (τ : St) (hf : ∀ v, v ≠ 14 → τ v = τ0 v) {i w : Nat} (hw : w = 1 ∨ w = 2) (hi : i < n) (c : Int32) :
    (zf_Mo_led τ (nI i) c (nI w) = some 1 ∧ ∃ j, j < n ∧ τ0 13 j = 0 ∧ τ 14 j = c ∧ ED τ0 n w j i) ∨ (zf_Mo_led τ (nI i) c (nI w) = some 0 ∧ ∀ j, j < n → τ0 13 j = 0 → τ 14 j = c → ¬ ED τ0 n w j i) := by
  rcases led_loop hS τ hf hw hi c 300 0 (by omega) (by have := hS.1; omega) with ⟨h1, j, h2, h3⟩ | ⟨h1, h2⟩
  · exact Or.inl ⟨by unfold zf_Mo_led; rw [px_k0]; exact h1, j, h3⟩
  · exact Or.inr ⟨by unfold zf_Mo_led; rw [px_k0]; exact h1, fun j hj => h2 j (by omega) hj⟩
