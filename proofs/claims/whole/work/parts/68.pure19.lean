/-! the reference's rounds -/
def MI (A : Ph) (u0 : Nat → Int32) (τ : St) : Prop := (∀ v, v ≠ 14 → τ v = A.τ0 v) ∧ (∀ k, A.ok k → τ 14 k = A.c → A.C k) ∧ ∀ k, ¬ (A.ok k ∧ τ 14 k = A.c) → τ 14 k = u0 k
def tkn (A : Ph) (τ : St) (k : Nat) : Prop := A.ok k ∧ τ 14 k = A.c
def full (A : Ph) (τ : St) : Prop := ∀ k, A.C k → τ 14 k = A.c
/-- what a round leaves undone -/
def rnd (A : Ph) (τ τ' : St) : Prop := (∀ j, tkn A τ j → tkn A τ' j) ∧ ∀ i, A.ok i → ¬ tkn A τ' i → ¬ A.rt i ∧ (∀ j, A.S0 j → ¬ ED A.τ0 A.n A.w j i) ∧ ∀ j, tkn A τ j → ¬ ED A.τ0 A.n A.w j i
theorem rnd_full {A : Ph} (hok : ∀ k, A.ok k → k < A.n) {τ τ' : St} (hr : rnd A τ τ') {r : Nat} (h : full A τ ∨ r ≤ cnt (tkn A τ) A.n) : full A τ' ∨ r + 1 ≤ cnt (tkn A τ') A.n := by
  obtain ⟨h1, h2⟩ := hr
  rcases h with h | h
  · exact Or.inl (fun k hk => (h1 k ⟨Cl.ok hk, h k hk⟩).2)
  · by_cases hex : ∃ i, tkn A τ' i ∧ ¬ tkn A τ i
    · obtain ⟨i, a, b⟩ := hex
      have := cnt_lt (P := tkn A τ) (Q := tkn A τ') b a A.n (fun k _ hk => h1 k hk) (hok i a.1)
      exact Or.inr (by omega)
    · left
      have back : ∀ i, tkn A τ' i → tkn A τ i := fun i hi => Classical.byContradiction (fun hn => hex ⟨i, hi, hn⟩)
      intro k hk
      have key : A.ok k ∧ τ' 14 k = A.c := by
        refine hk (fun k => A.ok k ∧ τ' 14 k = A.c) (fun k a b => ?_) (fun j k a b c => ?_) (fun j k a b c => ?_)
        · exact Classical.byContradiction (fun hn => (h2 k a hn).1 b)
        · exact Classical.byContradiction (fun hn => (h2 k a hn).2.1 j b c)
        · exact Classical.byContradiction (fun hn => (h2 k a hn).2.2 j (back j b) c)
      exact key.2
theorem MI.put {A : Ph} {u0 : Nat → Int32} {τ : St} (h : MI A u0 τ) {k : Nat} (hk : A.ok k) (hC : A.C k) : MI A u0 (zz_put τ 14 k A.c) ∧ (∀ j, tkn A τ j → tkn A (zz_put τ 14 k A.c) j) ∧ tkn A (zz_put τ 14 k A.c) k ∧ ∀ j, tkn A (zz_put τ 14 k A.c) j → j = k ∨ tkn A τ j := by
  obtain ⟨h1, h2, h3⟩ := h
  have e : ∀ j, (zz_put τ 14 k A.c) 14 j = if j = k then A.c else τ 14 j := by intro j; simp [px_at, px_upd]
  refine ⟨⟨fun v hv => by rw [px_at, if_neg hv, h1 v hv], fun j hj he => ?_, fun j hj => ?_⟩, fun j hj => ⟨hj.1, ?_⟩, ⟨hk, by rw [e, if_pos rfl]⟩, fun j hj => ?_⟩
  · rw [e] at he
    by_cases hjk : j = k
    · subst hjk; exact hC
    · rw [if_neg hjk] at he; exact h2 j hj he
  · rw [e] at hj ⊢
    by_cases hjk : j = k
    · subst hjk
      rw [if_pos rfl] at hj
      exact absurd ⟨hk, rfl⟩ hj
    · rw [if_neg hjk] at hj ⊢; exact h3 j hj
  · rw [e]
    split
    · rfl
    · exact hj.2
  · by_cases hjk : j = k
    · exact Or.inl hjk
    · refine Or.inr ⟨hj.1, ?_⟩
      have := hj.2
      rw [e, if_neg hjk] at this
      exact this
/-- the first rounds' setting -/
def Ph.one (A : Ph) (u0 : Nat → Int32) : Prop := SC A.m A.n A.σ0 A.τ0 ∧ A.c = 1 ∧ A.w = 2 ∧ (∀ k, A.ok k ↔ (k < A.n ∧ A.τ0 13 k = 0)) ∧ (∀ k, k < A.n → u0 k = 0) ∧ (∀ k, ¬ A.S0 k) ∧ A.rt = RT A.τ0 A.n 2
theorem r33 {A : Ph} {u0 : Nat → Int32} (hA : A.one u0) (kx : St → Int32 → Option St) (x1 : Int32) :
    ∀ (f k : Nat) (τ : St), k ≤ A.n → A.n - k < f → MI A u0 τ → ∃ τ', zf_Mo_scan_L33 kx f τ x1 (nI k) = kx τ' x1 ∧ MI A u0 τ' ∧ (∀ j, tkn A τ j → tkn A τ' j) ∧ ∀ i, k ≤ i → A.ok i → ¬ tkn A τ' i → ¬ A.rt i ∧ ∀ j, tkn A τ j → ¬ ED A.τ0 A.n A.w j i := by
  obtain ⟨hS, hc, hw, hok, hu, hs, hrt⟩ := hA
  have hn := hS.1
  intro f
  induction f with
  | zero => intro k τ h1 h2; omega
  | succ f ih =>
    intro k τ hk hf hM
    obtain ⟨m1, m2, m3⟩ := id hM
    rw [zf_Mo_scan_L33, m1 20 (by omega), hS.2.2.2]
    by_cases h : k = A.n
    · subst h
      rw [if_pos (nI_le (Nat.le_refl _) (by omega))]
      exact ⟨τ, rfl, hM, fun _ h => h, fun i hi hoi => by have := ((hok i).mp hoi).1; omega⟩
    · have hkn : k < A.n := by omega
      have hk10 : k < 10 := by omega
      rw [if_neg (nI_ge hkn (by omega))]
      simp only [px_ck hk10 (show 10 < 2 ^ 31 by omega), px_cl (show k < 2 ^ 31 by omega), nI_1]
      have skip : (A.ok k → tkn A τ k ∨ (¬ A.rt k ∧ ∀ j, tkn A τ j → ¬ ED A.τ0 A.n A.w j k)) → ∃ τ', zf_Mo_scan_L33 kx f τ x1 (nI (k + 1)) = kx τ' x1 ∧ MI A u0 τ' ∧ (∀ j, tkn A τ j → tkn A τ' j) ∧ ∀ i, k ≤ i → A.ok i → ¬ tkn A τ' i → ¬ A.rt i ∧ ∀ j, tkn A τ j → ¬ ED A.τ0 A.n A.w j i := by
        intro hno
        obtain ⟨τ', g1, g2, g3, g4⟩ := ih (k + 1) τ (by omega) (by omega) hM
        refine ⟨τ', g1, g2, g3, fun i hi hoi hni => ?_⟩
        by_cases hik : i = k
        · subst hik
          rcases hno hoi with h | h
          · exact absurd (g3 i h) hni
          · exact h
        · exact g4 i (by omega) hoi hni
      have take : A.ok k → A.C k → ∃ τ', zf_Mo_scan_L33 kx f (zz_put τ 14 k 1) x1 (nI (k + 1)) = kx τ' x1 ∧ MI A u0 τ' ∧ (∀ j, tkn A τ j → tkn A τ' j) ∧ ∀ i, k ≤ i → A.ok i → ¬ tkn A τ' i → ¬ A.rt i ∧ ∀ j, tkn A τ j → ¬ ED A.τ0 A.n A.w j i := by
        intro hoi hCk
        obtain ⟨a1, a2, a3, -⟩ := hM.put hoi hCk
        rw [hc] at a1 a2 a3
        obtain ⟨τ', g1, g2, g3, g4⟩ := ih (k + 1) (zz_put τ 14 k 1) (by omega) (by omega) a1
        refine ⟨τ', g1, g2, fun j hj => g3 j (a2 j hj), fun i hi hoi hni => ?_⟩
        by_cases hik : i = k
        · subst hik; exact absurd (g3 i a3) hni
        · obtain ⟨b1, b2⟩ := g4 i (by omega) hoi hni
          exact ⟨b1, fun j hj => b2 j (a2 j hj)⟩
      by_cases h13 : τ 13 k = 0
      · have hl : A.τ0 13 k = 0 := by rw [← m1 13 (by omega)]; exact h13
        have hoi : A.ok k := (hok k).mpr ⟨hkn, hl⟩
        rw [if_pos h13]
        by_cases h14 : τ 14 k = 0
        · rw [if_pos h14]
          obtain ⟨r, l1, l2, l3⟩ := roots_eq hS τ m1 hkn
          rw [l2, Option.bind_some]
          by_cases hr : r = 2
          · rw [if_pos (by rw [hr]; rfl)]
            exact take hoi (Cl.root hoi (by rw [hrt]; exact (l3 2 (Or.inr rfl)).mp (by omega)))
          · rw [if_neg (show ¬ nI r = 2 from fun e => hr ((nI_eq (b := 2) (by omega) (by omega)).mp e))]
            have hnr : ¬ A.rt k := by
              rw [hrt]
              intro hh
              have := (l3 2 (Or.inr rfl)).mpr hh
              omega
            rcases led_eq hS τ m1 (w := 2) (Or.inr rfl) hkn 1 with ⟨e1, j, j1, j2, j3, j4⟩ | ⟨e1, e2⟩
            · have e1' : zf_Mo_led τ (nI k) 1 2 = some 1 := e1
              rw [e1', Option.bind_some, if_neg (show ¬ (1 : Int32) = 0 by decide)]
              have hoj : A.ok j := (hok j).mpr ⟨j1, j2⟩
              exact take hoi (Cl.step hoi (m2 j hoj (by rw [hc]; exact j3)) (by rw [hw]; exact j4))
            · have e1' : zf_Mo_led τ (nI k) 1 2 = some 0 := e1
              rw [e1', Option.bind_some, if_pos rfl]
              refine skip (fun _ => Or.inr ⟨hnr, fun j hj => ?_⟩)
              obtain ⟨j1, j2⟩ := (hok j).mp hj.1
              rw [hw]
              exact e2 j j1 j2 (by rw [← hc]; exact hj.2)
        · rw [if_neg h14]
          refine skip (fun _ => Or.inl ?_)
          exact Classical.byContradiction (fun hn => h14 (by rw [m3 k hn, hu k hkn]))
      · rw [if_neg h13]
        refine skip (fun hoi => absurd ((hok k).mp hoi).2 ?_)
        rw [← m1 13 (by omega)]; exact h13
theorem r25 {A : Ph} {u0 : Nat → Int32} (hA : A.one u0) (kx : St → Option St) :
    ∀ (f r : Nat) (τ : St), r ≤ 11 → 11 - r < f → MI A u0 τ → (full A τ ∨ r ≤ cnt (tkn A τ) A.n) → ∃ τ', zf_Mo_scan_L25 kx f τ (nI r) = kx τ' ∧ MI A u0 τ' ∧ full A τ' := by
  have hS := hA.1
  have hok := hA.2.2.2.1
  have hs := hA.2.2.2.2.2.1
  have hn := hS.1
  intro f
  induction f with
  | zero => intro r τ h1 h2; omega
  | succ f ih =>
    intro r τ hr hf hM hF
    rw [zf_Mo_scan_L25]
    by_cases h : r = 11
    · subst h
      rw [if_pos (by decide)]
      rcases hF with hF | hF
      · exact ⟨τ, rfl, hM, hF⟩
      · have := cnt_n (tkn A τ) A.n
        omega
    · rw [if_neg (show ¬ (11 : Int32) ≤ nI r from nI_ge (b := 11) (by omega) (by omega))]
      obtain ⟨τ', g1, g2, g3, g4⟩ := r33 hA (fun s12 s12_1 => zf_Mo_scan_L25 kx f s12 (s12_1 + (1 : Int32))) (nI r) 300 0 τ (by omega) (by omega) hM
      have g1' : zf_Mo_scan_L33 (fun s12 s12_1 => zf_Mo_scan_L25 kx f s12 (s12_1 + (1 : Int32))) 300 τ (nI r) 0 = zf_Mo_scan_L25 kx f τ' (nI r + 1) := g1
      rw [g1', nI_1]
      refine ih (r + 1) τ' (by omega) (by omega) g2 (rnd_full (fun k hk => ((hok k).mp hk).1) ⟨g3, fun i hi hni => ?_⟩ hF)
      obtain ⟨a, b⟩ := g4 i (by omega) hi hni
      exact ⟨a, fun j hj => absurd hj (hs j), b⟩
/-- the second rounds' setting -/
def Ph.two (A : Ph) (u0 : Nat → Int32) : Prop := SC A.m A.n A.σ0 A.τ0 ∧ A.c = 2 ∧ A.w = 1 ∧ (∀ k, A.ok k ↔ (k < A.n ∧ A.τ0 13 k = 0 ∧ u0 k = 0)) ∧ (∀ k, k < A.n → u0 k = 0 ∨ u0 k = 1) ∧ (∀ k, A.S0 k ↔ (k < A.n ∧ A.τ0 13 k = 0 ∧ u0 k = 1)) ∧ A.rt = RT A.τ0 A.n 1 ∧ ∀ k, A.ok k → ¬ RT A.τ0 A.n 2 k
theorem r107 {A : Ph} {u0 : Nat → Int32} (hA : A.two u0) (kx : St → Int32 → Option St) (x1 : Int32) :
    ∀ (f k : Nat) (τ : St), k ≤ A.n → A.n - k < f → MI A u0 τ → ∃ τ', zf_Mo_scan_L107 kx f τ x1 (nI k) = kx τ' x1 ∧ MI A u0 τ' ∧ (∀ j, tkn A τ j → tkn A τ' j) ∧ ∀ i, k ≤ i → A.ok i → ¬ tkn A τ' i → ¬ A.rt i ∧ (∀ j, A.S0 j → ¬ ED A.τ0 A.n A.w j i) ∧ ∀ j, tkn A τ j → ¬ ED A.τ0 A.n A.w j i := by
  obtain ⟨hS, hc, hw, hok, hu, hs, hrt, hr2⟩ := hA
  have hn := hS.1
  intro f
  induction f with
  | zero => intro k τ h1 h2; omega
  | succ f ih =>
    intro k τ hk hf hM
    obtain ⟨m1, m2, m3⟩ := id hM
    rw [zf_Mo_scan_L107, m1 20 (by omega), hS.2.2.2]
    by_cases h : k = A.n
    · subst h
      rw [if_pos (nI_le (Nat.le_refl _) (by omega))]
      exact ⟨τ, rfl, hM, fun _ h => h, fun i hi hoi => by have := ((hok i).mp hoi).1; omega⟩
    · have hkn : k < A.n := by omega
      have hk10 : k < 10 := by omega
      rw [if_neg (nI_ge hkn (by omega))]
      simp only [px_ck hk10 (show 10 < 2 ^ 31 by omega), px_cl (show k < 2 ^ 31 by omega), nI_1]
      have skip : (A.ok k → tkn A τ k ∨ (¬ A.rt k ∧ (∀ j, A.S0 j → ¬ ED A.τ0 A.n A.w j k) ∧ ∀ j, tkn A τ j → ¬ ED A.τ0 A.n A.w j k)) → ∃ τ', zf_Mo_scan_L107 kx f τ x1 (nI (k + 1)) = kx τ' x1 ∧ MI A u0 τ' ∧ (∀ j, tkn A τ j → tkn A τ' j) ∧ ∀ i, k ≤ i → A.ok i → ¬ tkn A τ' i → ¬ A.rt i ∧ (∀ j, A.S0 j → ¬ ED A.τ0 A.n A.w j i) ∧ ∀ j, tkn A τ j → ¬ ED A.τ0 A.n A.w j i := by
        intro hno
        obtain ⟨τ', g1, g2, g3, g4⟩ := ih (k + 1) τ (by omega) (by omega) hM
        refine ⟨τ', g1, g2, g3, fun i hi hoi hni => ?_⟩
        by_cases hik : i = k
        · subst hik
          rcases hno hoi with h | h
          · exact absurd (g3 i h) hni
          · exact h
        · exact g4 i (by omega) hoi hni
      have take : A.ok k → A.C k → ∃ τ', zf_Mo_scan_L107 kx f (zz_put τ 14 k 2) x1 (nI (k + 1)) = kx τ' x1 ∧ MI A u0 τ' ∧ (∀ j, tkn A τ j → tkn A τ' j) ∧ ∀ i, k ≤ i → A.ok i → ¬ tkn A τ' i → ¬ A.rt i ∧ (∀ j, A.S0 j → ¬ ED A.τ0 A.n A.w j i) ∧ ∀ j, tkn A τ j → ¬ ED A.τ0 A.n A.w j i := by
        intro hoi hCk
        obtain ⟨a1, a2, a3, -⟩ := hM.put hoi hCk
        rw [hc] at a1 a2 a3
        obtain ⟨τ', g1, g2, g3, g4⟩ := ih (k + 1) (zz_put τ 14 k 2) (by omega) (by omega) a1
        refine ⟨τ', g1, g2, fun j hj => g3 j (a2 j hj), fun i hi hoi hni => ?_⟩
        by_cases hik : i = k
        · subst hik; exact absurd (g3 i a3) hni
        · obtain ⟨b1, b2, b3⟩ := g4 i (by omega) hoi hni
          exact ⟨b1, b2, fun j hj => b3 j (a2 j hj)⟩
      by_cases h13 : τ 13 k = 0
      · have hl : A.τ0 13 k = 0 := by rw [← m1 13 (by omega)]; exact h13
        rw [if_pos h13]
        by_cases h14 : τ 14 k = 0
        · have hoi : A.ok k := (hok k).mpr ⟨hkn, hl, by rw [← m3 k (fun hh => by have := hh.2; rw [h14, hc] at this; exact absurd this (by decide))]; exact h14⟩
          rw [if_pos h14]
          obtain ⟨r, l1, l2, l3⟩ := roots_eq hS τ m1 hkn
          rw [l2, Option.bind_some]
          have hr2' : ¬ 2 ≤ r := fun hh => hr2 k hoi ((l3 2 (Or.inr rfl)).mp hh)
          by_cases hr : r = 1
          · rw [if_pos (by rw [hr]; rfl)]
            exact take hoi (Cl.root hoi (by rw [hrt]; exact (l3 1 (Or.inl rfl)).mp (by omega)))
          · rw [if_neg (show ¬ nI r = 1 from fun e => hr ((nI_eq (b := 1) (by omega) (by omega)).mp e))]
            have hnr : ¬ A.rt k := by
              rw [hrt]
              intro hh
              have := (l3 1 (Or.inl rfl)).mpr hh
              omega
            rcases led_eq hS τ m1 (w := 1) (Or.inl rfl) hkn 1 with ⟨e1, j, j1, j2, j3, j4⟩ | ⟨e1, e2⟩
            · have e1' : zf_Mo_led τ (nI k) 1 1 = some 1 := e1
              rw [e1', Option.bind_some, if_neg (show ¬ (1 : Int32) = 0 by decide)]
              have hj0 : A.S0 j := (hs j).mpr ⟨j1, j2, by rw [← m3 j (fun hh => by have := hh.2; rw [j3, hc] at this; exact absurd this (by decide))]; exact j3⟩
              exact take hoi (Cl.src hoi hj0 (by rw [hw]; exact j4))
            · have e1' : zf_Mo_led τ (nI k) 1 1 = some 0 := e1
              rw [e1', Option.bind_some, if_pos rfl]
              rcases led_eq hS τ m1 (w := 1) (Or.inl rfl) hkn 2 with ⟨d1, j, j1, j2, j3, j4⟩ | ⟨d1, d2⟩
              · have d1' : zf_Mo_led τ (nI k) 2 1 = some 1 := d1
                rw [d1', Option.bind_some, if_neg (show ¬ (1 : Int32) = 0 by decide)]
                have htj : tkn A τ j := Classical.byContradiction (fun hh => by
                  have := m3 j hh
                  rw [j3] at this
                  rcases hu j j1 with h | h
                  · rw [h] at this; exact absurd this (by decide)
                  · rw [h] at this; exact absurd this (by decide))
                exact take hoi (Cl.step hoi (m2 j htj.1 htj.2) (by rw [hw]; exact j4))
              · have d1' : zf_Mo_led τ (nI k) 2 1 = some 0 := d1
                rw [d1', Option.bind_some, if_pos rfl]
                refine skip (fun _ => Or.inr ⟨hnr, fun j hj => ?_, fun j hj => ?_⟩)
                · obtain ⟨j1, j2, j3⟩ := (hs j).mp hj
                  rw [hw]
                  refine e2 j j1 j2 ?_
                  rw [m3 j (fun hh => by have := ((hok j).mp hh.1).2.2; rw [j3] at this; exact absurd this (by decide)), j3]
                · obtain ⟨j1, j2, -⟩ := (hok j).mp hj.1
                  rw [hw]
                  exact d2 j j1 j2 (by rw [← hc]; exact hj.2)
        · rw [if_neg h14]
          refine skip (fun hoi => Or.inl ?_)
          exact Classical.byContradiction (fun hn => h14 (by rw [m3 k hn, ((hok k).mp hoi).2.2]))
      · rw [if_neg h13]
        refine skip (fun hoi => absurd ((hok k).mp hoi).2.1 ?_)
        rw [← m1 13 (by omega)]; exact h13
theorem r99 {A : Ph} {u0 : Nat → Int32} (hA : A.two u0) (kx : St → Option St) :
    ∀ (f r : Nat) (τ : St), r ≤ 11 → 11 - r < f → MI A u0 τ → (full A τ ∨ r ≤ cnt (tkn A τ) A.n) → ∃ τ', zf_Mo_scan_L99 kx f τ (nI r) = kx τ' ∧ MI A u0 τ' ∧ full A τ' := by
  have hS := hA.1
  have hok := hA.2.2.2.1
  have hn := hS.1
  intro f
  induction f with
  | zero => intro r τ h1 h2; omega
  | succ f ih =>
    intro r τ hr hf hM hF
    rw [zf_Mo_scan_L99]
    by_cases h : r = 11
    · subst h
      rw [if_pos (by decide)]
      rcases hF with hF | hF
      · exact ⟨τ, rfl, hM, hF⟩
      · have := cnt_n (tkn A τ) A.n
        omega
    · rw [if_neg (show ¬ (11 : Int32) ≤ nI r from nI_ge (b := 11) (by omega) (by omega))]
      obtain ⟨τ', g1, g2, g3, g4⟩ := r107 hA (fun s27 s27_1 => zf_Mo_scan_L99 kx f s27 (s27_1 + (1 : Int32))) (nI r) 300 0 τ (by omega) (by omega) hM
      have g1' : zf_Mo_scan_L107 (fun s27 s27_1 => zf_Mo_scan_L99 kx f s27 (s27_1 + (1 : Int32))) 300 τ (nI r) 0 = zf_Mo_scan_L99 kx f τ' (nI r + 1) := g1
      rw [g1', nI_1]
      exact ih (r + 1) τ' (by omega) (by omega) g2 (rnd_full (fun k hk => ((hok k).mp hk).1) ⟨g3, fun i hi hni => g4 i (by omega) hi hni⟩ hF)
