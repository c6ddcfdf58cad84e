/-! the class follows all that leads somewhere -/
theorem PI.s10 {A : Ph} (hA : A.good) {σ : St} {s : Nat} (hP : PI A σ s) : s ≤ 10 := by
  have h1 := hP.1.2
  have h2 := hA.2.1
  have h3 := cnt_le (P := fun k => A.ok k ∧ σ 26 k = A.c) (Q := A.ok) A.n (fun k _ h => h.1)
  omega
theorem follow_inv {A : Ph} (hA : A.good) {σ : St} {s : Nat} (hP : PI A σ s) (x : Int32) (hx : ∀ i, LD A.τ0 A.n A.w x i → A.ok i → A.C i) :
    ∃ (σ' : St) (s' : Nat), zf_LS_follow σ x A.c = some σ' ∧ PI A σ' s' ∧ Ext A σ s σ' s' ∧ dn A σ' x := by
  have hS := hA.1
  have hn := hS.1
  obtain ⟨⟨p1, p2⟩, p3, p4, p5, p6, p7, p8⟩ := id hP
  unfold zf_LS_follow
  rcases ila hS σ (fun v hv => p7 v (by omega) (by omega) (by omega)) x with ⟨k, g1, g2⟩ | ⟨g1, g2⟩
  · have hkn := g2.1
    have hk10 : k < 10 := by omega
    rw [g1, Option.bind_some, if_neg (px_ne1 (by omega))]
    rcases takes_eq hA hP (x := x) hkn g2.2.1 with ⟨t1, t2, t3, t4⟩ | ⟨t1, t2⟩
    · have hcap : s < 10 := by
        have h3 := cnt_lt (P := fun k => A.ok k ∧ σ 26 k = A.c) (Q := A.ok) (i := k) (fun h => t3 h.2) t2 A.n (fun k _ h => h.1) hkn
        have := hA.2.1
        omega
      have hne : ¬ (10 : Int32) ≤ nI s := nI_ge (b := 10) (by omega) (by omega)
      have z28 : (zz_put σ 26 k A.c) 28 0 = nI s := by simp [px_at, p1]
      have z28' : (zz_put (zz_put σ 26 k A.c) 27 s (nI k)) 28 0 = nI s := by simp [px_at, p1]
      rw [t1, Option.bind_some, if_neg (show ¬ (1 : Int32) = 0 by decide), p1, if_neg hne, px_ck hk10 (by omega), px_cl (by omega), z28, px_ck hcap (by omega), px_cl (by omega), z28', nI_1]
      have hLD : LD A.τ0 A.n A.w x k := ⟨g2.1, g2.2.1, g2.2.2.1, g2.2.2.2.1, t4⟩
      have hCk := hx k hLD t2
      have e26 : ∀ i, (zz_put (zz_put (zz_put σ 26 k A.c) 27 s (nI k)) 28 0 (nI (s + 1))) 26 i = if i = k then A.c else σ 26 i := by intro i; simp [px_at, px_upd]
      have e27 : ∀ i, (zz_put (zz_put (zz_put σ 26 k A.c) 27 s (nI k)) 28 0 (nI (s + 1))) 27 i = if i = s then nI k else σ 27 i := by intro i; simp [px_at, px_upd]
      refine ⟨_, s + 1, rfl, ⟨⟨by simp [px_at, px_upd], ?_⟩, ?_, ?_, ?_, ?_, ?_, ?_⟩, ⟨by omega, ?_, ?_⟩, ?_⟩
      · rw [cnt_one (P := fun k => A.ok k ∧ σ 26 k = A.c) (i := k) (fun h => t3 h.2) A.n (fun j hj => ?_), if_pos hkn, p2]
        · omega
        · rw [e26]
          by_cases hjk : j = k
          · subst hjk
            rw [if_pos rfl]
            exact ⟨fun _ => Or.inr rfl, fun _ => ⟨t2, rfl⟩⟩
          · rw [if_neg hjk]
            exact ⟨fun h => Or.inl h, fun h => by rcases h with h | h; exact h; exact absurd h hjk⟩
      · intro t ht
        rw [e27]
        by_cases hts : t = s
        · rw [if_pos hts]
          exact ⟨k, hkn, g2.2.1, rfl, Or.inr hCk⟩
        · rw [if_neg hts]
          exact p3 t (by omega)
      · intro j hj
        obtain ⟨t, ht, e⟩ := p4 j hj
        exact ⟨t, by omega, by rw [e27, if_neg (by omega), e]⟩
      · intro j hj e
        rw [e26] at e
        by_cases hjk : j = k
        · subst hjk
          exact ⟨hCk, s, by omega, by rw [e27, if_pos rfl]⟩
        · rw [if_neg hjk] at e
          obtain ⟨c1, t, ht, c2⟩ := p5 j hj e
          exact ⟨c1, t, by omega, by rw [e27, if_neg (by omega), c2]⟩
      · intro j hj
        rw [e26] at hj ⊢
        by_cases hjk : j = k
        · subst hjk
          rw [if_pos rfl] at hj
          exact absurd ⟨t2, rfl⟩ hj
        · rw [if_neg hjk] at hj ⊢
          exact p6 j hj
      · intro v h1 h2 h3
        rw [px_at, if_neg h3, px_at, if_neg h2, px_at, if_neg h1, p7 v h1 h2 h3]
      · intro hc
        have : 1 ≤ s := by
          rcases hA.2.2.2 with ⟨e1, -⟩ | ⟨e1, -⟩ | ⟨e1, e2, e4, -⟩
          · rw [e1] at hc; exact absurd hc (by decide)
          · rw [e1] at hc; exact absurd hc (by decide)
          · omega
        rw [e27, if_neg (by omega)]
        exact p8 hc
      · intro t ht
        rw [e27, if_neg (by omega)]
      · intro j hj e
        rw [e26]
        split
        · rfl
        · exact e
      · intro i hi hoi
        rw [e26, if_pos (hi.uniq hS g2)]
    · rw [t1, Option.bind_some, if_pos rfl]
      refine ⟨σ, s, rfl, hP, Ext.refl A σ s, fun i hi hoi => ?_⟩
      have hik := hi.uniq hS g2
      subst hik
      by_cases hc : σ 26 i = A.c
      · exact hc
      · exact absurd ⟨hoi, hc, hi.2.2.2.2⟩ t2
  · rw [g1, Option.bind_some, if_pos rfl]
    exact ⟨σ, s, rfl, hP, Ext.refl A σ s, fun i hi _ => absurd hi.w1 (g2 i)⟩
theorem words_loop {A : Ph} (hA : A.good) (kx : St → Option St) {e : Nat} (he : e ≤ 256) :
    ∀ (f x : Nat) (σ : St) (s : Nat), e + 4 - x ≤ 4 * f → x ≤ e → 1 ≤ f → PI A σ s → (∀ y, x ≤ y → (y - x) % 4 = 0 → y + 4 ≤ e → us A.τ0 y → ∀ i, LD A.τ0 A.n A.w (vl A.τ0 y) i → A.ok i → A.C i) →
    ∃ (σ' : St) (s' : Nat), zf_LS_followWords_L3 kx f σ (nI e) A.c (nI x) = kx σ' ∧ PI A σ' s' ∧ Ext A σ s σ' s' ∧ ∀ y, x ≤ y → (y - x) % 4 = 0 → y + 4 ≤ e → us A.τ0 y → dn A σ' (vl A.τ0 y) := by
  intro f
  induction f with
  | zero => intro x σ s h1 h2 h3; omega
  | succ f ih =>
    intro x σ s hf hxe _ hP hC
    have hS := hA.1
    have s4 : nI x + 4 = nI (x + 4) := by rw [show (4 : Int32) = nI 4 from rfl, nI_add]
    have hfr : ∀ v, v ≤ 25 → σ v = A.σ0 v := fun v hv => hP.2.2.2.2.2.1 v (by omega) (by omega) (by omega)
    rw [zf_LS_followWords_L3, s4]
    by_cases h : e < x + 4
    · rw [if_pos (nI_lt h (by omega))]
      exact ⟨σ, s, rfl, hP, Ext.refl A σ s, fun y h1 h2 h3 => by omega⟩
    · rw [if_neg (nI_nlt (by omega) (by omega))]
      have next : ∀ (σ1 : St) (s1 : Nat), PI A σ1 s1 → Ext A σ s σ1 s1 → (us A.τ0 x → dn A σ1 (vl A.τ0 x)) → ∃ (σ' : St) (s' : Nat), zf_LS_followWords_L3 kx f σ1 (nI e) A.c (nI (x + 4)) = kx σ' ∧ PI A σ' s' ∧ Ext A σ s σ' s' ∧ ∀ y, x ≤ y → (y - x) % 4 = 0 → y + 4 ≤ e → us A.τ0 y → dn A σ' (vl A.τ0 y) := by
        intro σ1 s1 hP1 hE1 hd1
        obtain ⟨σ', s', g1, g2, g3, g4⟩ := ih (x + 4) σ1 s1 (by omega) (by omega) (by omega) hP1 (fun y h1 h2 h3 => hC y (by omega) (by omega) h3)
        refine ⟨σ', s', g1, g2, hE1.trans g3, fun y h1 h2 h3 h4 => ?_⟩
        by_cases hyx : y = x
        · subst hyx
          exact (hd1 h4).ext g3
        · exact g4 y (by omega) (by omega) h3 h4
      rcases usable hS σ hfr (show x + 4 ≤ 256 by omega) with ⟨u1, u2⟩ | ⟨u1, u2⟩
      · rw [u1, Option.bind_some, if_neg (show ¬ (1 : Int32) = 0 by decide), cval hS σ hfr (by omega), Option.bind_some]
        obtain ⟨σ1, s1, g1, g2, g3, g4⟩ := follow_inv hA hP (vl A.τ0 x) (hC x (by omega) (by omega) (by omega) u2)
        rw [g1, Option.bind_some]
        exact next σ1 s1 g2 g3 (fun _ => g4)
      · rw [u1, Option.bind_some, if_pos rfl]
        exact next σ s hP (Ext.refl A σ s) (fun h => absurd h u2)
theorem words_inv {A : Ph} (hA : A.good) {a e : Nat} (hae : a ≤ e) (he : e ≤ 256) {σ : St} {s : Nat} (hP : PI A σ s) (hC : ∀ i, WD A.τ0 A.n A.w a e i → A.ok i → A.C i) :
    ∃ (σ' : St) (s' : Nat), zf_LS_followWords σ (nI a) (nI e) A.c = some σ' ∧ PI A σ' s' ∧ Ext A σ s σ' s' ∧ ∀ i, WD A.τ0 A.n A.w a e i → A.ok i → σ' 26 i = A.c := by
  obtain ⟨σ', s', g1, g2, g3, g4⟩ := words_loop hA (fun s9 => some s9) he 300 a σ s (by omega) hae (by omega) hP (fun y h1 h2 h3 h4 i hi => hC i ⟨y, h1, h2, h3, h4, hi⟩)
  refine ⟨σ', s', g1, g2, g3, fun i hw hi => ?_⟩
  obtain ⟨y, h1, h2, h3, h4, h5⟩ := hw
  exact g4 y h1 h2 h3 h4 i h5 hi
theorem regs_loop {A : Ph} (hA : A.good) (kx : St → Int32 → Option St) :
    ∀ (f r : Nat) (σ : St) (s : Nat), r ≤ 8 → 8 - r < f → PI A σ s → (∀ q, r ≤ q → q < 8 → A.τ0 9 q = 15 → ∀ i, LD A.τ0 A.n A.w (A.τ0 8 q) i → A.ok i → A.C i) →
    ∃ (σ' : St) (s' : Nat), zf_LS_followAll_L10 kx f σ A.c (nI r) = kx σ' A.c ∧ PI A σ' s' ∧ Ext A σ s σ' s' ∧ ∀ q, r ≤ q → q < 8 → A.τ0 9 q = 15 → dn A σ' (A.τ0 8 q) := by
  intro f
  induction f with
  | zero => intro r σ s h1 h2; omega
  | succ f ih =>
    intro r σ s hr hf hP hC
    rw [zf_LS_followAll_L10]
    by_cases h : r = 8
    · subst h
      rw [if_pos (by decide)]
      exact ⟨σ, s, rfl, hP, Ext.refl A σ s, fun q h1 h2 => by omega⟩
    · rw [if_neg (show ¬ (8 : Int32) ≤ nI r from nI_ge (b := 8) (by omega) (by omega)), nI_1]
      have hr8 : r < 8 := by omega
      obtain ⟨⟨q1, q2⟩, -⟩ := hA.1.2.2.1.2.2.1
      have f3 : σ 3 = A.τ0 8 := by rw [hP.2.2.2.2.2.1 3 (by omega) (by omega) (by omega), q1]
      have f4 : σ 4 = A.τ0 9 := by rw [hP.2.2.2.2.2.1 4 (by omega) (by omega) (by omega), q2]
      have next : ∀ (σ1 : St) (s1 : Nat), PI A σ1 s1 → Ext A σ s σ1 s1 → (A.τ0 9 r = 15 → dn A σ1 (A.τ0 8 r)) → ∃ (σ' : St) (s' : Nat), zf_LS_followAll_L10 kx f σ1 A.c (nI (r + 1)) = kx σ' A.c ∧ PI A σ' s' ∧ Ext A σ s σ' s' ∧ ∀ q, r ≤ q → q < 8 → A.τ0 9 q = 15 → dn A σ' (A.τ0 8 q) := by
        intro σ1 s1 hP1 hE1 hd1
        obtain ⟨σ', s', g1, g2, g3, g4⟩ := ih (r + 1) σ1 s1 (by omega) (by omega) hP1 (fun q h1 h2 => hC q (by omega) h2)
        refine ⟨σ', s', g1, g2, hE1.trans g3, fun q h1 h2 h3 => ?_⟩
        by_cases hq : q = r
        · subst hq; exact (hd1 h3).ext g3
        · exact g4 q (by omega) h2 h3
      unfold zf_Re_isKnown zf_Re_value
      rw [px_ck hr8 (by omega), px_ck hr8 (by omega), px_cl (by omega), f3, f4, px_k0, px_k1]
      by_cases h15 : A.τ0 9 r = 15
      · rw [if_pos h15, Option.bind_some, if_neg (show ¬ (1 : Int32) = 0 by decide), Option.bind_some]
        obtain ⟨σ1, s1, g1, g2, g3, g4⟩ := follow_inv hA hP (A.τ0 8 r) (hC r (by omega) hr8 h15)
        rw [g1, Option.bind_some]
        exact next σ1 s1 g2 g3 (fun _ => g4)
      · rw [if_neg h15, Option.bind_some, if_pos rfl]
        exact next σ s hP (Ext.refl A σ s) (fun h => absurd h h15)
theorem work_loop {A : Ph} (hA : A.good) (kx : St → Option St) :
    ∀ (f t : Nat) (σ : St) (s : Nat), t ≤ s → 10 - t < f → PI A σ s → (∀ t', t' < t → ∀ k, k < A.n → σ 27 t' = nI k → ∀ i, ED A.τ0 A.n A.w k i → A.ok i → σ 26 i = A.c) →
    ∃ (σ' : St) (s' : Nat), zf_LS_followAll_L48 kx f σ A.c (nI t) = kx σ' ∧ PI A σ' s' ∧ Ext A σ s σ' s' ∧ ∀ t', t' < s' → ∀ k, k < A.n → σ' 27 t' = nI k → ∀ i, ED A.τ0 A.n A.w k i → A.ok i → σ' 26 i = A.c := by
  intro f
  induction f with
  | zero => intro t σ s h1 h2; omega
  | succ f ih =>
    intro t σ s ht hf hP hd
    have hs10 := hP.s10 hA
    have hS := hA.1
    have hn := hS.1
    obtain ⟨⟨p1, p2⟩, p3, p4, p5, p6, p7, p8⟩ := id hP
    rw [zf_LS_followAll_L48, p1]
    by_cases h : s = t
    · subst h
      rw [if_pos (nI_le (Nat.le_refl _) (by omega))]
      exact ⟨σ, s, rfl, hP, Ext.refl A σ s, hd⟩
    · have ht10 : t < 10 := by omega
      obtain ⟨k, hk, hl, e27, hsrc⟩ := p3 t (by omega)
      have hk10 : k < 10 := by omega
      obtain ⟨a, z, tt, hb, -, s1, s2, -⟩ := hS.blk hk
      have hr := rmz_le hb.2.2.2.2.2.1
      have hl4 := hb.2.2.2.2.2.2.1
      have ha1 : zf_He_address σ (nI k) = some (nI a) := by
        unfold zf_He_address
        rw [px_ck hk10 (by omega), px_cl (by omega), p7 19 (by omega) (by omega) (by omega), s1]
      have ha2 : zf_He_end σ (nI k) = some (nI (a + z)) := by
        unfold zf_He_end
        rw [px_ck hk10 (by omega), px_ck hk10 (by omega), px_cl (by omega), p7 19 (by omega) (by omega) (by omega), p7 20 (by omega) (by omega) (by omega), s1, s2, nI_add]
      rw [if_neg (nI_ge (show t < s by omega) (by omega)), if_neg (show ¬ (10 : Int32) ≤ nI t from nI_ge (b := 10) (by omega) (by omega))]
      simp only [px_ck ht10 (show 10 < 2 ^ 31 by omega), px_cl (show t < 2 ^ 31 by omega), e27, nI_1, ha1, ha2, Option.bind_some]
      have hED : ∀ i, ED A.τ0 A.n A.w k i ↔ WD A.τ0 A.n A.w a (a + z) i := by
        intro i
        unfold ED
        rw [hb.1, hb.2.1, px_cl (by omega), px_cl (by omega)]
      obtain ⟨σ1, s1', g1, g2, g3, g4⟩ := words_inv hA (show a ≤ a + z by omega) (by omega) hP (fun i hi hok => by
        rcases hsrc with h | h
        · exact Cl.src hok h ((hED i).mpr hi)
        · exact Cl.step hok h ((hED i).mpr hi))
      rw [g1, Option.bind_some]
      obtain ⟨σ', s', j1, j2, j3, j4⟩ := ih (t + 1) σ1 s1' (by have := g3.1; omega) (by omega) g2 (by
        intro t' ht' k' hk' e' i hi hok
        by_cases htt : t' = t
        · subst htt
          rw [g3.2.1 t' (by omega), e27] at e'
          have := (nI_eq (by omega) (by omega)).mp e'
          subst this
          exact g4 i ((hED i).mp hi) hok
        · rw [g3.2.1 t' (by omega)] at e'
          exact g3.2.2 i hok (hd t' (by omega) k' hk' e' i hi hok))
      exact ⟨σ', s', j1, j2, g3.trans j3, j4⟩
/-- closed: all that the closure holds is taken -/
theorem work_full {A : Ph} (hA : A.good) {σ : St} {s : Nat} (hP : PI A σ s) (hr : ∀ i, A.rt i → A.ok i → σ 26 i = A.c) (hw : ∀ t', t' < s → ∀ k, k < A.n → σ 27 t' = nI k → ∀ i, ED A.τ0 A.n A.w k i → A.ok i → σ 26 i = A.c) (hS0 : ∀ k, A.S0 k → k < A.n) :
    ∀ k, A.C k → σ 26 k = A.c := by
  have key : ∀ k, A.C k → A.ok k ∧ σ 26 k = A.c := by
    intro k hk
    refine hk (fun k => A.ok k ∧ σ 26 k = A.c) (fun k h1 h2 => ⟨h1, hr k h2 h1⟩) (fun j k h1 h2 h3 => ⟨h1, ?_⟩) (fun j k h1 h2 h3 => ⟨h1, ?_⟩)
    · obtain ⟨t, ht, e⟩ := hP.2.2.1 j h2
      exact hw t ht j (hS0 j h2) e k h3 h1
    · obtain ⟨-, t, ht, e⟩ := hP.2.2.2.1 j h2.1 h2.2
      exact hw t ht j (hA.2.2.1 j h2.1).1 e k h3 h1
  exact fun k hk => (key k hk).2
/-- the verdicts after the phase -/
theorem work_val {A : Ph} (hA : A.good) {σ : St} {s : Nat} (hP : PI A σ s) (hf : ∀ k, A.C k → σ 26 k = A.c) : (∀ k, A.C k → σ 26 k = A.c) ∧ ∀ k, ¬ A.C k → σ 26 k = A.v0 k := by
  refine ⟨hf, fun k hk => hP.2.2.2.2.1 k (fun h => hk (hP.2.2.2.1 k h.1 h.2).1)⟩
theorem all_inv {A : Ph} (hA : A.good) (hrt : A.rt = RT A.τ0 A.n A.w) (hS0 : ∀ k, A.S0 k → k < A.n) {σ : St} {s : Nat} (hP : PI A σ s) :
    ∃ (σ' : St) (s' : Nat), zf_LS_followAll σ A.c = some σ' ∧ PI A σ' s' ∧ (∀ k, A.C k → σ' 26 k = A.c) := by
  unfold zf_LS_followAll
  obtain ⟨σ1, s1, g1, g2, g3, g4⟩ := words_inv hA (show 0 ≤ 64 by omega) (by omega) hP (fun i hi hok => Cl.root hok (by rw [hrt]; exact Or.inl hi))
  have g1' : zf_LS_followWords σ 0 64 A.c = some σ1 := g1
  rw [g1', Option.bind_some]
  obtain ⟨σ2, s2, j1, j2, j3, j4⟩ := regs_loop hA (fun s10 s10_1 => zf_LS_followAll_L48 (fun s19 => some s19) 300 s10 s10_1 (0 : Int32)) 300 0 σ1 s1 (by omega) (by omega) g2 (fun q h1 h2 h3 i hi hok => Cl.root hok (by rw [hrt]; exact Or.inr ⟨q, h2, h3, hi⟩))
  obtain ⟨σ3, s3, l1, l2, l3, l4⟩ := work_loop hA (fun s19 => some s19) 300 0 σ2 s2 (by omega) (by omega) j2 (fun t' h => by omega)
  refine ⟨σ3, s3, j1.trans l1, l2, work_full hA l2 (fun i hi hok => ?_) l4 hS0⟩
  rw [hrt] at hi
  rcases hi with hi | ⟨q, h1, h2, h3⟩
  · exact l3.2.2 i hok (j3.2.2 i hok (g4 i hi hok))
  · exact l3.2.2 i hok (j4 q (by omega) h1 h2 i h3 hok)
