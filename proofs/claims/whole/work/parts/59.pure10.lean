/-! asking for a block -/
theorem rm_eq {z : Nat} (hz : z < 2 ^ 30) : (nI z + 3) / 4 * 4 = nI (rmz z) := by
  rw [show (3 : Int32) = nI 3 from rfl, nI_add, show (4 : Int32) = nI 4 from rfl, pk_div (by omega) (by omega) (by omega), pk_mul]
  rfl
theorem room_eq {z : Nat} (hz : z < 2 ^ 30) : zf_Mo_room (nI z) = some (nI (rmz z)) := by
  unfold zf_Mo_room zz_kn
  rw [if_neg (by decide), rm_eq hz]
theorem rmz_le {z : Nat} (h : z ≤ 48) : rmz z ≤ 48 ∧ z ≤ rmz z := by unfold rmz; omega
theorem Bk.uniq {q1 q2 q3 : Nat → Int32} {k a z t a' z' t' : Nat} (h : Bk q1 q2 q3 k a z t) (h' : Bk q1 q2 q3 k a' z' t') : a = a' ∧ z = z' := by
  obtain ⟨e1, e2, e3, b1, b2, b3, b4, b5⟩ := h
  obtain ⟨f1, f2, f3, c1, c2, c3, c4, c5⟩ := h'
  rw [e1] at f1
  rw [e2] at f2
  exact ⟨(nI_eq (by omega) (by omega)).mp f1, (nI_eq (by omega) (by omega)).mp f2⟩
theorem free_loop (kx kx' : Option Int32) {σ τ : St} {c n : Nat} (hn : n ≤ 10) (h23 : σ 23 0 = nI n) (h20 : τ 20 0 = nI n) (h19 : σ 19 = τ 11) (hB : ∀ k : Nat, k < n → ∃ a z t : Nat, Bk (τ 11) (τ 12) (τ 13) k a z t ∧ t ≤ c ∧ σ 21 k = nI (a + rmz z + 4))
    {A Z : Nat} (hA : 68 ≤ A) (hZ : Z ≤ 48) (hAZ : A + rmz Z ≤ 220) :
    ∀ f k : Nat, k ≤ n → n - k < f → (zf_He_isFree_L2 σ kx f (nI (A - 4)) (nI (A + rmz Z + 4)) (nI k) = some 0 ∧ zf_Mo_free_L2 τ kx' f (nI A) (nI Z) (nI k) = some 0) ∨
      (zf_He_isFree_L2 σ kx f (nI (A - 4)) (nI (A + rmz Z + 4)) (nI k) = kx ∧ zf_Mo_free_L2 τ kx' f (nI A) (nI Z) (nI k) = kx' ∧ ∀ k' : Nat, k ≤ k' → k' < n → ∀ a z t, Bk (τ 11) (τ 12) (τ 13) k' a z t → a + rmz z + 8 ≤ A ∨ A + rmz Z + 8 ≤ a) := by
  intro f
  induction f with
  | zero => intro k h1 h2; omega
  | succ f ih =>
    intro k hk hf
    rw [zf_He_isFree_L2, zf_Mo_free_L2, h23, h20]
    by_cases h : k = n
    · subst h
      rw [if_pos (nI_le (Nat.le_refl _) (by omega)), if_pos (nI_le (Nat.le_refl _) (by omega))]
      exact Or.inr ⟨rfl, rfl, fun k' h1 h2 => by omega⟩
    · obtain ⟨a, z, t, hb, ht, hw⟩ := hB k (by omega)
      obtain ⟨b1, b2, b3, b4, b5, b6, b7, b8⟩ := id hb
      have hk10 : k < 10 := by omega
      have l1 : (nI (a + rmz z + 4) ≤ nI (A - 4)) ↔ a + rmz z + 8 ≤ A := by rw [nI_leI (by omega) (by omega)]; omega
      have s1 : nI A - 4 = nI (A - 4) := by rw [show (4 : Int32) = nI 4 from rfl, pk_sub (by omega)]
      have s2 : nI a - 4 = nI (a - 4) := by rw [show (4 : Int32) = nI 4 from rfl, pk_sub (by omega)]
      have s3 : nI a + nI (rmz z) + 4 = nI (a + rmz z + 4) := by rw [nI_add, show (4 : Int32) = nI 4 from rfl, nI_add]
      have s4 : nI A + nI (rmz Z) + 4 = nI (A + rmz Z + 4) := by rw [nI_add, show (4 : Int32) = nI 4 from rfl, nI_add]
      have l2 : (nI (A + rmz Z + 4) ≤ nI (a - 4)) ↔ A + rmz Z + 8 ≤ a := by rw [nI_leI (by omega) (by omega)]; omega
      simp only [if_neg (nI_ge (show k < n by omega) (show n < 2 ^ 31 by omega)), px_ck hk10 (show 10 < 2 ^ 31 by omega), px_cl (show k < 2 ^ 31 by omega), h19, hw, b1, b2, room_eq (show z < 2 ^ 30 by omega), room_eq (show Z < 2 ^ 30 by omega), Option.bind_some, s1, s2, s3, s4, nI_1, px_k0]
      have rest : (∀ a' z' t', Bk (τ 11) (τ 12) (τ 13) k a' z' t' → a' + rmz z' + 8 ≤ A ∨ A + rmz Z + 8 ≤ a') → (zf_He_isFree_L2 σ kx f (nI (A - 4)) (nI (A + rmz Z + 4)) (nI (k + 1)) = some 0 ∧ zf_Mo_free_L2 τ kx' f (nI A) (nI Z) (nI (k + 1)) = some 0) ∨
          (zf_He_isFree_L2 σ kx f (nI (A - 4)) (nI (A + rmz Z + 4)) (nI (k + 1)) = kx ∧ zf_Mo_free_L2 τ kx' f (nI A) (nI Z) (nI (k + 1)) = kx' ∧ ∀ k' : Nat, k ≤ k' → k' < n → ∀ a z t, Bk (τ 11) (τ 12) (τ 13) k' a z t → a + rmz z + 8 ≤ A ∨ A + rmz Z + 8 ≤ a) := by
        intro hh
        rcases ih (k + 1) (by omega) (by omega) with g | ⟨g1, g2, g3⟩
        · exact Or.inl g
        · refine Or.inr ⟨g1, g2, fun k' h1 h2 => ?_⟩
          by_cases hkk : k' = k
          · subst hkk; exact hh
          · exact g3 k' (by omega) h2
      by_cases c1 : a + rmz z + 8 ≤ A
      · rw [if_pos (l1.mpr c1), if_pos (l1.mpr c1)]
        exact rest (fun a' z' t' hb' => by obtain ⟨rfl, rfl⟩ := hb.uniq hb'; exact Or.inl c1)
      · rw [if_neg (fun h => c1 (l1.mp h)), if_neg (fun h => c1 (l1.mp h))]
        by_cases c2 : A + rmz Z + 8 ≤ a
        · rw [if_pos (l2.mpr c2), if_pos (l2.mpr c2)]
          exact rest (fun a' z' t' hb' => by obtain ⟨rfl, rfl⟩ := hb.uniq hb'; exact Or.inr c2)
        · rw [if_neg (fun h => c2 (l2.mp h)), if_neg (fun h => c2 (l2.mp h))]
          exact Or.inl ⟨rfl, rfl⟩
theorem place_loop (kx : St → Int32 → Int32 → Option (Int32 × St)) {σ τ : St} {c n : Nat} (hn : n ≤ 10) (h23 : σ 23 0 = nI n) (h20 : τ 20 0 = nI n) (h19 : σ 19 = τ 11) (hB : ∀ k : Nat, k < n → ∃ a z t : Nat, Bk (τ 11) (τ 12) (τ 13) k a z t ∧ t ≤ c ∧ σ 21 k = nI (a + rmz z + 4))
    {Z : Nat} (hZ : Z ≤ 48) :
    ∀ f A0 : Nat, 68 ≤ A0 → A0 % 4 = 0 → A0 ≤ 224 → 228 - A0 ≤ 4 * f →
      (∃ A, 68 ≤ A ∧ A % 4 = 0 ∧ A + rmz Z ≤ 220 ∧ zf_He_placeFor_L3 σ (some 0) f (nI (rmz Z)) (nI A0) = some (nI A) ∧ zf_Mo_ask_L24 kx f τ (nI Z) (nI A0) = kx τ (nI Z) (nI A) ∧ ∀ k' : Nat, k' < n → ∀ a z t, Bk (τ 11) (τ 12) (τ 13) k' a z t → a + rmz z + 8 ≤ A ∨ A + rmz Z + 8 ≤ a) ∨
      (∃ A, ¬ A + rmz Z ≤ 220 ∧ A ≤ 224 ∧ zf_He_placeFor_L3 σ (some 0) f (nI (rmz Z)) (nI A0) = some 0 ∧ zf_Mo_ask_L24 kx f τ (nI Z) (nI A0) = kx τ (nI Z) (nI A)) := by
  intro f
  induction f with
  | zero => intro A0 h1 h2 h3 h4; omega
  | succ f ih =>
    intro A0 h1 h2 h3 h4
    have hr := rmz_le hZ
    have s1 : nI A0 + nI (rmz Z) + 4 = nI (A0 + rmz Z + 4) := by rw [nI_add, show (4 : Int32) = nI 4 from rfl, nI_add]
    have s2 : nI A0 - 4 = nI (A0 - 4) := by rw [show (4 : Int32) = nI 4 from rfl, pk_sub (by omega)]
    have l1 : ((224 : Int32) < nI (A0 + rmz Z + 4)) ↔ 220 < A0 + rmz Z := by
      rw [show (224 : Int32) = nI 224 from rfl, nI_ltI (by omega) (by omega)]; omega
    have l2 : ((220 : Int32) < nI (A0 + rmz Z)) ↔ 220 < A0 + rmz Z := by
      rw [show (220 : Int32) = nI 220 from rfl, nI_ltI (by omega) (by omega)]
    rw [zf_He_placeFor_L3, zf_Mo_ask_L24, room_eq (by omega), Option.bind_some, s1, s2, nI_add]
    by_cases h : 220 < A0 + rmz Z
    · rw [if_pos (l1.mpr h), if_pos (l2.mpr h)]
      exact Or.inr ⟨A0, by omega, h3, rfl, rfl⟩
    · rw [if_neg (fun e => h (l1.mp e)), if_neg (fun e => h (l2.mp e))]
      unfold zf_He_isFree zf_Mo_free
      rcases free_loop (zz_kz 1 (some 1)) (zz_kz 1 (some 1)) hn h23 h20 h19 hB h1 hZ (show A0 + rmz Z ≤ 220 by omega) 300 0 (by omega) (by omega) with ⟨g1, g2⟩ | ⟨g1, g2, g3⟩
      · rw [show (0 : Int32) = nI 0 from rfl] at *
        rw [g1, g2, Option.bind_some, Option.bind_some, if_pos rfl, if_pos rfl, show (4 : Int32) = nI 4 from rfl, nI_add]
        exact ih (A0 + 4) (by omega) (by omega) (by omega) (by omega)
      · rw [show (0 : Int32) = nI 0 from rfl] at *
        rw [g1, g2, px_k1, Option.bind_some, Option.bind_some, if_neg (by decide), if_neg (by decide)]
        exact Or.inl ⟨A0, h1, h2, by omega, rfl, rfl, fun k' hk' => g3 k' (by omega) hk'⟩
theorem mark_loop (kx kx' : St → Option St) {A Z : Nat} (hAZ : A + Z ≤ 256) {y : Int32} (hy : y = 0 ∨ y = 1) :
    ∀ (f i : Nat) (σ τ : St), i ≤ A + Z → A + Z - i < f → RM (σ 0) (σ 1) (σ 2) (τ 5) (τ 6) (τ 7) →
    ∃ σ' τ' : St, zf_Me_forget_L3 kx f σ (nI A) (nI Z) y (nI i) = kx σ' ∧ zf_Mo_mark_L3 kx' f τ (nI A) (nI Z) y (nI i) = kx' τ' ∧ RM (σ' 0) (σ' 1) (σ' 2) (τ' 5) (τ' 6) (τ' 7) ∧ (∀ v, v ≠ 1 → v ≠ 2 → σ' v = σ v) ∧ ∀ v, v ≠ 6 → v ≠ 7 → τ' v = τ v := by
  intro f
  induction f with
  | zero => intro i σ τ h1 h2; omega
  | succ f ih =>
    intro i σ τ hi hf hM
    rw [zf_Me_forget_L3, zf_Mo_mark_L3, nI_add]
    by_cases h : i = A + Z
    · subst h
      rw [if_pos (nI_le (Nat.le_refl _) (by omega)), if_pos (nI_le (Nat.le_refl _) (by omega))]
      exact ⟨σ, τ, rfl, rfl, hM, fun _ _ _ => rfl, fun _ _ _ => rfl⟩
    · have hi256 : i < 256 := by omega
      have hb : vp_nar .boolean y = y := by
        rcases hy with rfl | rfl
        · exact px_n0
        · exact px_n1
      simp only [if_neg (nI_ge (show i < A + Z by omega) (show A + Z < 2 ^ 31 by omega)), px_ck hi256 (show 256 < 2 ^ 31 by omega), px_cl (show i < 2 ^ 31 by omega), nI_1, px_n0, hb]
      obtain ⟨σ', τ', g1, g2, g3, g4, g5⟩ := ih (i + 1) (zz_put (zz_put σ 1 i y) 2 i 0) (zz_put (zz_put τ 6 i y) 7 i 0) (by omega) (by omega) (by
        obtain ⟨⟨m1, m2, m3⟩, m4, m5⟩ := hM
        refine ⟨⟨by simp [px_at, m1], by simp [px_at, m2], by simp [px_at, m3]⟩, fun j => ?_, fun j => ?_⟩
        · by_cases hj : j = i
          · simp [px_at, px_upd, hj, hy]
          · simp [px_at, px_upd, hj, m4 j]
        · by_cases hj : j = i
          · simp [px_at, px_upd, hj]
          · simp [px_at, px_upd, hj, m5 j])
      exact ⟨σ', τ', g1, g2, g3, fun v h1 h2 => by rw [g4 v h1 h2]; simp [px_at, h1, h2], fun v h1 h2 => by rw [g5 v h1 h2]; simp [px_at, h1, h2]⟩
theorem sim_mark {m : Nat} {σ τ : St} (hC : Cor m σ τ) {A Z : Nat} (hAZ : A + Z ≤ 256) {y : Int32} (hy : y = 0 ∨ y = 1) :
    ∃ σ' τ' : St, zf_Me_forget σ (nI A) (nI Z) y = some σ' ∧ zf_Mo_mark τ (nI A) (nI Z) y = some τ' ∧ Cor m σ' τ' ∧ FrS σ σ' ∧ FrM τ τ' ∧ (∀ v, v ≠ 1 → v ≠ 2 → σ' v = σ v) ∧ ∀ v, v ≠ 6 → v ≠ 7 → τ' v = τ v := by
  obtain ⟨σ', τ', g1, g2, g3, g4, g5⟩ := mark_loop (fun s2 => some s2) (fun s2 => some s2) hAZ hy 300 A σ τ (by omega) (by omega) hC.2.1
  obtain ⟨c1, c2, c3⟩ := hC.mem g3 (fun v _ h1 h2 => g4 v h1 h2) (fun v _ h1 h2 => g5 v h1 h2)
  exact ⟨σ', τ', g1, g2, c1, c2, c3, g4, g5⟩
theorem Bk.upd_ne {q1 q2 q3 : Nat → Int32} {n k a z t : Nat} {x y w : Int32} (h : k ≠ n) : Bk (upd q1 n x) (upd q2 n y) (upd q3 n w) k a z t ↔ Bk q1 q2 q3 k a z t := by
  simp [Bk, px_upd, h]
theorem RBi.add {c n : Nat} {pw q1 q2 q3 : Nat → Int32} (h : RBi c n pw q1 q2 q3) {A Z : Nat} (hA : 68 ≤ A) (hA4 : A % 4 = 0) (hZ1 : 1 ≤ Z) (hZ : Z ≤ 48) (hAZ : A + rmz Z ≤ 220) (hd : ∀ k : Nat, k < n → ∀ a z t, Bk q1 q2 q3 k a z t → a + rmz z + 8 ≤ A ∨ A + rmz Z + 8 ≤ a) :
    RBi c (n + 1) (upd pw n (nI (A + rmz Z + 4))) (upd q1 n (nI A)) (upd q2 n (nI Z)) (upd q3 n 0) := by
  have hnew : Bk (upd q1 n (nI A)) (upd q2 n (nI Z)) (upd q3 n 0) n A Z 0 := by
    refine ⟨?_, ?_, ?_, hA, hZ1, hZ, by omega, hA4⟩ <;> simp [px_upd] <;> rfl
  refine ⟨fun k hk => ?_, fun k k' a z t a' z' t' hk hk' hne hb hb' => ?_⟩
  · by_cases hkn : k = n
    · subst hkn
      exact ⟨A, Z, 0, hnew, by omega, by simp [px_upd]⟩
    · obtain ⟨a, z, t, h1, h2, h3⟩ := h.1 k (by omega)
      exact ⟨a, z, t, (Bk.upd_ne hkn).mpr h1, h2, by simp [px_upd, hkn, h3]⟩
  · by_cases hkn : k = n
    · subst hkn
      obtain ⟨rfl, rfl⟩ := hnew.uniq hb
      have := hd k' (by omega) a' z' t' ((Bk.upd_ne (by omega)).mp hb')
      omega
    · by_cases hkn' : k' = n
      · subst hkn'
        obtain ⟨rfl, rfl⟩ := hnew.uniq hb'
        exact hd k (by omega) a z t ((Bk.upd_ne (by omega)).mp hb)
      · exact h.2 k k' a z t a' z' t' (by omega) (by omega) hne ((Bk.upd_ne hkn).mp hb) ((Bk.upd_ne hkn').mp hb')
theorem in148 (x : Int32) : (∃ z : Nat, 1 ≤ z ∧ z ≤ 48 ∧ x = nI z) ∨ (zf_Mo_in x 1 48 = some 0 ∧ (x < 1 ∨ (¬ x < 1 ∧ 48 < x))) := by
  unfold zf_Mo_in
  rw [px_k0, px_k1]
  by_cases h1 : x < 1
  · exact Or.inr ⟨by rw [if_pos h1], Or.inl h1⟩
  · by_cases h2 : 48 < x
    · exact Or.inr ⟨by rw [if_neg h1, if_pos h2], Or.inr ⟨h1, h2⟩⟩
    · left
      have h0 : ¬ x < 0 := fun h => h1 (by
        rw [Int32.lt_iff_toInt_lt] at *
        simp at *
        omega)
      obtain ⟨z, hz, rfl⟩ := nI_of2 (M := 48) (n := 48) (by decide) h0 (Int32.not_lt.mp h2)
      refine ⟨z, ?_, hz, rfl⟩
      rcases Nat.eq_zero_or_pos z with rfl | h
      · exact absurd (by decide) h1
      · exact h
theorem sim_heap_ask {m : Nat} {σ τ : St} (hC : Cor m σ τ) (x : Int32) :
    ∃ us um : Int32 × St, zf_He_ask σ x = some us ∧ zf_Mo_ask τ x = some um ∧ us.1 = um.1 ∧ Cor m us.2 um.2 ∧ FrS σ us.2 ∧ FrM τ um.2 := by
  unfold zf_He_ask zf_Mo_ask
  rcases in148 x with ⟨z, hz1, hz, rfl⟩ | ⟨h1, h2⟩
  · have hz1' : ¬ nI z < 1 := nI_nlt (b := 1) hz1 (by omega)
    have hz2' : ¬ (48 : Int32) < nI z := nI_nlt (a := 48) (b := z) hz (by omega)
    have hin : zf_Mo_in (nI z) 1 48 = some 1 := by
      unfold zf_Mo_in
      rw [if_neg hz1', if_neg hz2', px_k1]
    have hC0 := hC
    obtain ⟨r1, r2, r3, ⟨⟨p0, p1, p2, p3, pn, pg, pc⟩, c, n, hc, qc, hn, qn, hI⟩, r5, r6⟩ := hC
    have h23 : σ 23 0 = nI n := by rw [pn, qn]
    rw [if_neg hz1', if_neg hz2', hin, Option.bind_some, if_neg (show ¬ (1 : Int32) = 0 by decide), h23, qn]
    by_cases hn10 : n = 10
    · rw [if_pos (by rw [hn10]; rfl), if_pos (by rw [hn10]; rfl)]
      exact ⟨_, _, rfl, rfl, rfl, hC0, FrS.refl σ, FrM.refl τ⟩
    · have hne : ¬ nI n = 10 := fun e => hn10 ((nI_eq (b := 10) (by omega) (by omega)).mp e)
      rw [if_neg hne, if_neg hne, rm_eq (by omega), zz_kn, if_neg (by decide)]
      unfold zf_He_placeFor
      rcases place_loop _ hn h23 qn p1 hI.1 hz 300 68 (by omega) (by omega) (by omega) (by omega) with ⟨A, a1, a2, a3, a4, a5, a6⟩ | ⟨A, a1, a2, a4, a5⟩
      · rw [show (68 : Int32) = nI 68 from rfl, a4, a5, Option.bind_some, if_neg (nI_ne0 (by omega) (by omega)), room_eq (by omega), Option.bind_some, nI_add, if_pos (show nI (A + rmz z) ≤ (220 : Int32) from nI_le (b := 220) a3 (by omega))]
        have hr := rmz_le hz
        have hCa : Cor m (zz_put (zz_put (zz_put (zz_put (zz_put (zz_put (zz_put σ 24 0 (σ 24 0 + 1)) 18 n (σ 24 0 + 1)) 19 n (nI A)) 20 n (nI z)) 21 n (nI (A + rmz z + 4))) 22 n 0) 23 0 (nI (n + 1)))
            (zz_put (zz_put (zz_put (zz_put (zz_put (zz_put τ 21 0 (τ 21 0 + 1)) 10 n (τ 21 0 + 1)) 11 n (nI A)) 12 n (nI z)) 13 n 0) 20 0 (nI (n + 1))) := by
          refine ⟨by simpa [px_at] using r1, by simpa [px_at] using r2, by simpa [px_at] using r3, ?_, by simpa [px_at] using r5, by simpa [px_at] using r6⟩
          refine ⟨⟨?_, ?_, ?_, ?_, ?_, ?_, ?_⟩, c, n + 1, hc, ?_, by omega, ?_, ?_⟩
          · simp [px_at, p0, pg]
          · simp [px_at, p1]
          · simp [px_at, p2]
          · simp [px_at, p3]
          · simp [px_at, px_upd]
          · simp [px_at, px_upd, pg]
          · simp [px_at, pc]
          · simp [px_at, qc]
          · simp [px_at, px_upd]
          · have := hI.add a1 a2 hz1 hz a3 a6
            simpa [px_at] using this
        obtain ⟨σ', τ', g1, g2, g3, g4, g5, -⟩ := sim_mark hCa (A := A) (Z := z) (by omega) (y := 1) (Or.inr rfl)
        refine ⟨(nI A, σ'), (nI A, τ'), ?_, ?_, rfl, g3, ?_, ?_⟩
        · have eadd : zf_He_add σ (nI A) (nI z) (nI (A + rmz z) + 4) = some (zz_put (zz_put (zz_put (zz_put (zz_put (zz_put (zz_put σ 24 0 (σ 24 0 + 1)) 18 n (σ 24 0 + 1)) 19 n (nI A)) 20 n (nI z)) 21 n (nI (A + rmz z + 4))) 22 n 0) 23 0 (nI (n + 1))) := by
            unfold zf_He_add
            simp [px_at, px_upd, h23, px_ck (show n < 10 by omega), px_cl (show n < 2 ^ 31 by omega), nI_1]
            rw [show (4 : Int32) = nI 4 from rfl, nI_add]
          rw [eadd, Option.bind_some, g1, Option.bind_some]
        · simp only [px_at, px_upd, qn, if_pos, if_neg (show ¬ (20 : Nat) = 21 by decide), if_neg (show ¬ (20 : Nat) = 10 by decide), if_neg (show ¬ (20 : Nat) = 11 by decide), if_neg (show ¬ (20 : Nat) = 12 by decide), if_neg (show ¬ (20 : Nat) = 13 by decide), px_ck (show n < 10 by omega) (show 10 < 2 ^ 31 by omega), px_cl (show n < 2 ^ 31 by omega), nI_1, g2, Option.bind_some]
        · refine FrS.trans ?_ g4
          exact (((((((FrS.refl σ).put (by omega)).put (by omega)).put (by omega)).put (by omega)).put (by omega)).put (by omega)).put (by omega)
        · refine FrM.trans ?_ g5
          exact ((((((FrM.refl τ).put (by omega)).put (by omega)).put (by omega)).put (by omega)).put (by omega)).put (by omega)
      · rw [show (68 : Int32) = nI 68 from rfl, a4, a5, Option.bind_some, if_pos rfl, room_eq (by omega), Option.bind_some, nI_add, if_neg (show ¬ nI (A + rmz z) ≤ (220 : Int32) from nI_ge (a := 220) (by omega) (by have := rmz_le hz; omega))]
        exact ⟨_, _, rfl, rfl, rfl, hC0, FrS.refl σ, FrM.refl τ⟩
  · rw [h1, Option.bind_some, if_pos rfl]
    rcases h2 with h2 | ⟨h2, h3⟩
    · rw [if_pos h2]
      exact ⟨_, _, rfl, rfl, rfl, hC, FrS.refl σ, FrM.refl τ⟩
    · rw [if_neg h2, if_pos h3]
      exact ⟨_, _, rfl, rfl, rfl, hC, FrS.refl σ, FrM.refl τ⟩
theorem sim_ask {m : Nat} {σ τ : St} (hC : Cor m σ τ) {p : Nat} (hp : p < 32) (h29 : σ 29 0 = nI p) (h24 : τ 24 0 = nI p) (h30 : σ 30 0 = (nI p + 1) &&& 31) :
    ∃ σ' u, zf_Ma_ask σ = some σ' ∧ zf_Mo_perform τ 17 (nI p) = some u ∧ OpOk m σ τ σ' u ∧ u.1 = (nI p + 1) &&& 31 := by
  obtain ⟨d, a, b, hd, ha, hb, e1, e2, e3, i1, i2, i3, i4, i5⟩ := ins hC hp h29
  obtain ⟨σ1, τ1, g1, g2, g3, g4, g5, g6⟩ := sim_nu0 hC hp h29 h24 ha e2
  have h29' : σ1 29 0 = nI p := by rw [g4 29 (by omega), h29]
  obtain ⟨d', a', b', hd', ha', hb', e1', e2', e3', i1', i2', i3', i4', i5'⟩ := ins g3 hp h29'
  have : a' = a := by
    rw [g5 2 (by omega), e2] at e2'
    exact ((nI_eq (by omega) (by omega)).mp e2').symm
  subst this
  obtain ⟨ka, hka, ea, va, wa, ra⟩ := rg g3 ha'
  obtain ⟨us, um, k1, k2, k3, k4, k5, k6⟩ := sim_heap_ask g3 (τ 8 a')
  have h29'' : us.2 29 0 = nI p := by rw [k5 29 (by omega), h29']
  obtain ⟨σ3, τ3, l1, l2, l3, l4, l5⟩ := sim_ans k4 hp h29'' us.1 (k := 15) (by omega)
  have l1' : zf_Ma_answer us.2 us.1 15 = some σ3 := l1
  have l2' : zf_Mo_put um.2 (um.2 1 p) um.1 15 = some τ3 := by rw [← k3]; exact l2
  refine ⟨σ3, ((nI p + 1) &&& 31, τ3), ?_, ?_, ⟨l3, fun v hv _ => by rw [l4 v hv, k5 v hv, g4 v hv], (g5.trans k6).trans l5, ?_, and31 _⟩, rfl⟩
  · unfold zf_Ma_ask
    rw [g1, Option.bind_some, i2', Option.bind_some, va, Option.bind_some, g6, k1, Option.bind_some, l1', Option.bind_some]
  · have := perf_0 (o := 17) hp (Or.inr (Or.inl rfl)) ha e2
    refine this.trans ?_
    rw [g2, Option.bind_some, zf_Mo_perform_b192, if_neg (show ¬ (nI 17 : Int32) = 15 by decide), if_neg (show ¬ (nI 17 : Int32) = 16 by decide), if_pos (show (nI 17 : Int32) = 17 from rfl), px_ck hp (by omega), px_cl (by omega), k2, Option.bind_some, ← k6 1 (by omega), l2', Option.bind_some]
  · rw [l4 30 (by omega), k5 30 (by omega), g4 30 (by omega), h30]
