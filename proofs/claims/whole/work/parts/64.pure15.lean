/-! the leak scan: what leads where -/
def us (τ : St) (x : Nat) : Prop := (τ 6 x = 1 ∧ τ 6 (x + 1) = 1 ∧ τ 6 (x + 2) = 1 ∧ τ 6 (x + 3) = 1) ∧ τ 7 x = 1 ∧ τ 7 (x + 1) = 1 ∧ τ 7 (x + 2) = 1 ∧ τ 7 (x + 3) = 1
def vl (τ : St) (x : Nat) : Int32 := (((τ 5 x) ||| ((τ 5 (x + 1)) <<< ((8 : Int32) &&& 31))) ||| ((τ 5 (x + 2)) <<< ((16 : Int32) &&& 31))) ||| ((τ 5 (x + 3)) <<< ((24 : Int32) &&& 31))
def LD (τ : St) (n w : Nat) (x : Int32) (i : Nat) : Prop := i < n ∧ τ 13 i = 0 ∧ ¬ x < τ 11 i ∧ x < τ 11 i + τ 12 i ∧ (w = 2 → x = τ 11 i)
def WD (τ : St) (n w a e i : Nat) : Prop := ∃ y : Nat, a ≤ y ∧ (y - a) % 4 = 0 ∧ y + 4 ≤ e ∧ us τ y ∧ LD τ n w (vl τ y) i
def RT (τ : St) (n w i : Nat) : Prop := WD τ n w 0 64 i ∨ ∃ r : Nat, r < 8 ∧ τ 9 r = 15 ∧ LD τ n w (τ 8 r) i
def ED (τ : St) (n w j i : Nat) : Prop := WD τ n w (τ 11 j).toNatClampNeg ((τ 11 j).toNatClampNeg + (τ 12 j).toNatClampNeg) i
/-- what the scan may rely on; t0: the reference's state before it -/
def SC (m n : Nat) (σ τ : St) : Prop := n ≤ 10 ∧ m < 2 ^ 30 ∧ Cor m σ τ ∧ τ 20 0 = nI n
theorem SC.blk {m n : Nat} {σ τ : St} (h : SC m n σ τ) {k : Nat} (hk : k < n) : ∃ a z t : Nat, Bk (τ 11) (τ 12) (τ 13) k a z t ∧ t < 2 ^ 30 ∧ σ 19 k = nI a ∧ σ 20 k = nI z ∧ σ 22 k = nI t := by
  obtain ⟨h1, h2, h3, h4⟩ := h
  obtain ⟨⟨p0, p1, p2, p3, pn, pg, pc⟩, c, n', hc, qc, hn, qn, hI⟩ := h3.2.2.2.1
  have : n' = n := by
    rw [h4] at qn
    exact ((nI_eq (by omega) (by omega)).mp qn).symm
  subst this
  obtain ⟨a, z, t, hb, ht, -⟩ := hI.1 k hk
  exact ⟨a, z, t, hb, by omega, by rw [p1]; exact hb.1, by rw [p2]; exact hb.2.1, by rw [p3]; exact hb.2.2.1⟩
theorem SC.disj {m n : Nat} {σ τ : St} (h : SC m n σ τ) {k k' a z t a' z' t' : Nat} (hk : k < n) (hk' : k' < n) (hne : k ≠ k') (hb : Bk (τ 11) (τ 12) (τ 13) k a z t) (hb' : Bk (τ 11) (τ 12) (τ 13) k' a' z' t') : a + rmz z + 8 ≤ a' ∨ a' + rmz z' + 8 ≤ a := by
  obtain ⟨h1, h2, h3, h4⟩ := h
  obtain ⟨-, c, n', hc, qc, hn, qn, hI⟩ := h3.2.2.2.1
  have : n' = n := by
    rw [h4] at qn
    exact ((nI_eq (by omega) (by omega)).mp qn).symm
  subst this
  exact hI.2 k k' a z t a' z' t' hk hk' hne hb hb'
theorem LD.w1 {τ : St} {n w i : Nat} {x : Int32} (h : LD τ n w x i) : LD τ n 1 x i := ⟨h.1, h.2.1, h.2.2.1, h.2.2.2.1, fun e => by omega⟩
/-- inside block k, as numbers -/
theorem LD.nat {m n w i : Nat} {σ τ : St} {x : Int32} (hS : SC m n σ τ) (h : LD τ n w x i) : ∃ a z t y : Nat, Bk (τ 11) (τ 12) (τ 13) i a z t ∧ x = nI y ∧ a ≤ y ∧ y < a + z := by
  obtain ⟨h1, h2, h3, h4, -⟩ := h
  obtain ⟨a, z, t, hb, -⟩ := hS.blk h1
  have hb0 := hb
  obtain ⟨b1, b2, b3, b4, b5, b6, b7, b8⟩ := hb
  have hr := rmz_le b6
  rw [b1] at h3
  rw [b1, b2, nI_add] at h4
  have h0 : ¬ x < 0 := fun hx => h3 (by
    rw [Int32.lt_iff_toInt_lt] at *
    rw [nI_toInt (by omega)]
    simp at hx
    omega)
  obtain ⟨y, hy, rfl⟩ := nI_of h0
  refine ⟨a, z, t, y, hb0, rfl, ?_, ?_⟩
  · rw [nI_ltI hy (by omega)] at h3; omega
  · rw [nI_ltI hy (by omega)] at h4; omega
theorem LD.uniq {m n w w' i i' : Nat} {σ τ : St} {x : Int32} (hS : SC m n σ τ) (h : LD τ n w x i) (h' : LD τ n w' x i') : i = i' := by
  by_cases hne : i = i'
  · exact hne
  · obtain ⟨a, z, t, y, hb, e, c1, c2⟩ := h.nat hS
    obtain ⟨a', z', t', y', hb', e', c1', c2'⟩ := h'.nat hS
    have hz := rmz_le hb.2.2.2.2.2.1
    have hz' := rmz_le hb'.2.2.2.2.2.1
    have hl := hb.2.2.2.2.2.2.1
    have hl' := hb'.2.2.2.2.2.2.1
    rw [e] at e'
    have := (nI_eq (by omega) (by omega)).mp e'
    have := hS.disj h.1 h'.1 hne hb hb'
    omega
theorem ila_loop {m n : Nat} {σ0 τ : St} (hS : SC m n σ0 τ) (σ : St) (hf : ∀ v, v ≤ 25 → σ v = σ0 v) (x : Int32) (kx : Option Int32) : ∀ f k : Nat, k ≤ n → n - k < f → (∃ i, zf_He_indexOfLiveAround_L2 σ kx f x (nI k) = some (nI i) ∧ LD τ n 1 x i) ∨ (zf_He_indexOfLiveAround_L2 σ kx f x (nI k) = kx ∧ ∀ i, k ≤ i → ¬ LD τ n 1 x i) := by
  intro f
  have h23 : σ 23 0 = nI n := by
    rw [hf 23 (by omega), hS.2.2.1.2.2.2.1.1.2.2.2.2.1, hS.2.2.2]
  have hn := hS.1
  induction f with
  | zero => intro k h1 h2; omega
  | succ f ih =>
    intro k hk hfu
    rw [zf_He_indexOfLiveAround_L2, h23]
    by_cases h : k = n
    · subst h
      rw [if_pos (nI_le (Nat.le_refl _) (by omega))]
      exact Or.inr ⟨rfl, fun i hi hl => by have := hl.1; omega⟩
    · obtain ⟨a, z, t, hb, ht, s1, s2, s3⟩ := hS.blk (show k < n by omega)
      have hk10 : k < 10 := by omega
      rw [if_neg (nI_ge (show k < n by omega) (by omega)), px_live σ hk10, Option.bind_some]
      simp only [px_ck hk10 (show 10 < 2 ^ 31 by omega), px_cl (show k < 2 ^ 31 by omega), nI_1, hf 22 (by omega), hf 19 (by omega), hf 20 (by omega), s1, s2, s3]
      have step : ¬ LD τ n 1 x k → (∃ i, zf_He_indexOfLiveAround_L2 σ kx f x (nI (k + 1)) = some (nI i) ∧ LD τ n 1 x i) ∨ (zf_He_indexOfLiveAround_L2 σ kx f x (nI (k + 1)) = kx ∧ ∀ i, k ≤ i → ¬ LD τ n 1 x i) := by
        intro hno
        rcases ih (k + 1) (by omega) (by omega) with h' | ⟨h1, h2⟩
        · exact Or.inl h'
        · refine Or.inr ⟨h1, fun i hi hl => ?_⟩
          by_cases hik : i = k
          · subst hik; exact hno hl
          · exact h2 i (by omega) hl
      obtain ⟨b1, b2, b3, -⟩ := hb
      by_cases ht0 : nI t = 0
      · rw [if_pos ht0, if_neg (show ¬ (1 : Int32) = 0 by decide)]
        by_cases c1 : x < nI a
        · rw [if_pos c1]
          exact step (fun hl => hl.2.2.1 (by rw [b1]; exact c1))
        · rw [if_neg c1]
          by_cases c2 : nI a + nI z ≤ x
          · rw [if_pos c2]
            exact step (fun hl => by have := hl.2.2.2.1; rw [b1, b2] at this; exact absurd c2 (Int32.not_le.mpr this))
          · rw [if_neg c2]
            exact Or.inl ⟨k, rfl, by omega, by rw [b3]; exact ht0, by rw [b1]; exact c1, by rw [b1, b2]; exact Int32.not_le.mp c2, fun e => by omega⟩
      · rw [if_neg ht0, if_pos rfl]
        exact step (fun hl => ht0 (by rw [← b3]; exact hl.2.1))
theorem ila {m n : Nat} {σ0 τ : St} (hS : SC m n σ0 τ) (σ : St) (hf : ∀ v, v ≤ 25 → σ v = σ0 v) (x : Int32) : (∃ i, zf_He_indexOfLiveAround σ x = some (nI i) ∧ LD τ n 1 x i) ∨ (zf_He_indexOfLiveAround σ x = some (-1) ∧ ∀ i, ¬ LD τ n 1 x i) := by
  rcases ila_loop hS σ hf x (some (-1)) 300 0 (by omega) (by have := hS.1; omega) with h | ⟨h1, h2⟩
  · exact Or.inl h
  · exact Or.inr ⟨h1, fun i => h2 i (by omega)⟩
theorem b4 : ∀ a b c d : Fin 2, ((((nI a.val ||| nI b.val <<< (nI 1 &&& 31)) ||| nI c.val <<< (nI 2 &&& 31)) ||| nI d.val <<< (nI 3 &&& 31) = 15) ↔ (nI a.val = 1 ∧ nI b.val = 1 ∧ nI c.val = 1 ∧ nI d.val = 1)) ∧ ((nI a.val + nI b.val + nI c.val + nI d.val = 4) ↔ (nI a.val = 1 ∧ nI b.val = 1 ∧ nI c.val = 1 ∧ nI d.val = 1)) := by decide
theorem fin2 {f : Nat → Int32} (h : ∀ i, f i = 0 ∨ f i = 1) (i : Nat) : ∃ a : Fin 2, f i = nI a.val := by
  rcases h i with h | h
  · exact ⟨0, h⟩
  · exact ⟨1, h⟩
theorem wk {m n : Nat} {σ τ : St} (hS : SC m n σ τ) {x : Nat} (hx : x + 4 ≤ 256) : ∃ K, zf_Mo_wordKnown τ (nI x) = some K ∧ (K = 15 ↔ (τ 7 x = 1 ∧ τ 7 (x + 1) = 1 ∧ τ 7 (x + 2) = 1 ∧ τ 7 (x + 3) = 1)) := by
  obtain ⟨-, m1, m2⟩ := hS.2.2.1.2.1
  obtain ⟨a, ea⟩ := fin2 m2 x
  obtain ⟨b, eb⟩ := fin2 m2 (x + 1)
  obtain ⟨c, ec⟩ := fin2 m2 (x + 2)
  obtain ⟨d, ed⟩ := fin2 m2 (x + 3)
  refine ⟨((τ 7 x ||| τ 7 (x + 1) <<< (nI 1 &&& 31)) ||| τ 7 (x + 2) <<< (nI 2 &&& 31)) ||| τ 7 (x + 3) <<< (nI 3 &&& 31), ?_, ?_⟩
  · unfold zf_Mo_wordKnown
    simp only [show (1 : Int32) = nI 1 from rfl, show (2 : Int32) = nI 2 from rfl, show (3 : Int32) = nI 3 from rfl, nI_add, px_ck (show x < 256 by omega) (show 256 < 2 ^ 31 by omega), px_ck (show x + 1 < 256 by omega) (show 256 < 2 ^ 31 by omega), px_ck (show x + 2 < 256 by omega) (show 256 < 2 ^ 31 by omega), px_ck (show x + 3 < 256 by omega) (show 256 < 2 ^ 31 by omega), px_cl (show x < 2 ^ 31 by omega), px_cl (show x + 1 < 2 ^ 31 by omega), px_cl (show x + 2 < 2 ^ 31 by omega), px_cl (show x + 3 < 2 ^ 31 by omega)]
  · rw [ea, eb, ec, ed]
    exact (b4 a b c d).1
theorem opn {m n : Nat} {σ τ : St} (hS : SC m n σ τ) (x : Nat) : (τ 6 x + τ 6 (x + 1) + τ 6 (x + 2) + τ 6 (x + 3) = 4) ↔ (τ 6 x = 1 ∧ τ 6 (x + 1) = 1 ∧ τ 6 (x + 2) = 1 ∧ τ 6 (x + 3) = 1) := by
  obtain ⟨-, m1, m2⟩ := hS.2.2.1.2.1
  obtain ⟨a, ea⟩ := fin2 m1 x
  obtain ⟨b, eb⟩ := fin2 m1 (x + 1)
  obtain ⟨c, ec⟩ := fin2 m1 (x + 2)
  obtain ⟨d, ed⟩ := fin2 m1 (x + 3)
  rw [ea, eb, ec, ed]
  exact (b4 a b c d).2
theorem word_eq {τ : St} {x : Nat} (hx : x + 4 ≤ 256) : zf_Mo_word τ (nI x) = some (vl τ x) := by
  unfold zf_Mo_word vl
  simp only [show (1 : Int32) = nI 1 from rfl, show (2 : Int32) = nI 2 from rfl, show (3 : Int32) = nI 3 from rfl, nI_add, px_ck (show x < 256 by omega) (show 256 < 2 ^ 31 by omega), px_ck (show x + 1 < 256 by omega) (show 256 < 2 ^ 31 by omega), px_ck (show x + 2 < 256 by omega) (show 256 < 2 ^ 31 by omega), px_ck (show x + 3 < 256 by omega) (show 256 < 2 ^ 31 by omega), px_cl (show x < 2 ^ 31 by omega), px_cl (show x + 1 < 2 ^ 31 by omega), px_cl (show x + 2 < 2 ^ 31 by omega), px_cl (show x + 3 < 2 ^ 31 by omega)]
theorem fc_all {σ : St} (kx : Option Int32) {A : Nat} (hw : A + 4 ≤ 256) : ∀ f i : Nat, i ≤ 4 → 4 - i < f → (∃ i', i ≤ i' ∧ i' < 4 ∧ σ 1 (A + i') = 0 ∧ zf_Me_firstClosed_L2 σ kx f (nI A) 4 (nI i) = some (nI (A + i'))) ∨ (zf_Me_firstClosed_L2 σ kx f (nI A) 4 (nI i) = kx ∧ ∀ i', i ≤ i' → i' < 4 → ¬ σ 1 (A + i') = 0) := by
  intro f
  induction f with
  | zero => intro i h1 h2; omega
  | succ f ih =>
    intro i hi hf
    rw [zf_Me_firstClosed_L2]
    by_cases h : i = 4
    · subst h
      rw [if_pos (show (4 : Int32) ≤ nI 4 by decide)]
      exact Or.inr ⟨rfl, fun i' h1 h2 => by omega⟩
    · have hlt : A + i < 256 := by omega
      rw [if_neg (show ¬ (4 : Int32) ≤ nI i from nI_ge (b := 4) (by omega) (by omega)), nI_add, px_ck hlt (by omega), px_cl (by omega), nI_1]
      by_cases e : σ 1 (A + i) = 0
      · rw [if_pos e]
        exact Or.inl ⟨i, by omega, by omega, e, rfl⟩
      · rw [if_neg e]
        rcases ih (i + 1) (by omega) (by omega) with ⟨i', h1, h2, h3, h4⟩ | ⟨h1, h2⟩
        · exact Or.inl ⟨i', by omega, h2, h3, h4⟩
        · refine Or.inr ⟨h1, fun i' h3 h4 => ?_⟩
          by_cases hii : i' = i
          · rw [hii]; exact e
          · exact h2 i' (by omega) h4
theorem usable {m n : Nat} {σ0 τ : St} (hS : SC m n σ0 τ) (σ : St) (hf : ∀ v, v ≤ 25 → σ v = σ0 v) {x : Nat} (hx : x + 4 ≤ 256) : (zf_Me_isUsableWord σ (nI x) = some 1 ∧ us τ x) ∨ (zf_Me_isUsableWord σ (nI x) = some 0 ∧ ¬ us τ x) := by
  obtain ⟨⟨m0, m1, m2⟩, m3, m4⟩ := hS.2.2.1.2.1
  obtain ⟨k, hk, k1, k2⟩ := kn4 (σ := σ) (τ := τ) (by rw [hf 2 (by omega), m2]) m4 hx
  obtain ⟨K, hK, hK'⟩ := wk hS hx
  rw [k2] at hK
  have hKk := Option.some.inj hK
  subst hKk
  have h6 : σ 1 = τ 6 := by rw [hf 1 (by omega), m1]
  unfold zf_Me_isUsableWord zf_Me_firstClosed
  rw [k1, px_k0, px_k1]
  rcases fc_all (σ := σ) (some (-1)) hx 300 0 (by omega) (by omega) with ⟨i', g1, g2, g3, g4⟩ | ⟨g1, g2⟩
  · right
    rw [show (0 : Int32) = nI 0 from rfl, g4, Option.bind_some, if_neg (px_ne1 (by omega))]
    refine ⟨rfl, fun hu => ?_⟩
    rw [h6] at g3
    have : i' = 0 ∨ i' = 1 ∨ i' = 2 ∨ i' = 3 := by omega
    rcases this with rfl | rfl | rfl | rfl
    · rw [Nat.add_zero, hu.1.1] at g3; exact absurd g3 (by decide)
    · rw [hu.1.2.1] at g3; exact absurd g3 (by decide)
    · rw [hu.1.2.2.1] at g3; exact absurd g3 (by decide)
    · rw [hu.1.2.2.2] at g3; exact absurd g3 (by decide)
  · rw [show (0 : Int32) = nI 0 from rfl, g1, Option.bind_some, if_pos rfl, Option.bind_some]
    rw [h6] at g2
    have o : ∀ i, i < 4 → τ 6 (x + i) = 1 := fun i hi => by
      rcases m3 (x + i) with h | h
      · exact absurd h (g2 i (by omega) hi)
      · exact h
    by_cases h15 : nI k = 15
    · left
      rw [if_pos h15]
      exact ⟨rfl, ⟨o 0 (by omega), o 1 (by omega), o 2 (by omega), o 3 (by omega)⟩, hK'.mp h15⟩
    · right
      rw [if_neg h15]
      exact ⟨rfl, fun hu => h15 (hK'.mpr hu.2)⟩
theorem cval {m n : Nat} {σ0 τ : St} (hS : SC m n σ0 τ) (σ : St) (hf : ∀ v, v ≤ 25 → σ v = σ0 v) {x : Nat} (hx : x + 4 ≤ 256) : zf_Me_value σ (nI x) 4 = some (vl τ x) := by
  obtain ⟨⟨m0, m1, m2⟩, m3, m4⟩ := hS.2.2.1.2.1
  obtain ⟨v, h1, h2⟩ := val4 (σ := σ) (τ := τ) (by rw [hf 0 (by omega), m0]) hx
  rw [word_eq hx] at h2
  rw [h1, ← h2]
