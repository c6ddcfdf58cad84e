/-! closures, counts, and the class's following -/
def Cl (S0 rt ok : Nat → Prop) (ed : Nat → Nat → Prop) (k : Nat) : Prop := ∀ P : Nat → Prop, (∀ k, ok k → rt k → P k) → (∀ j k, ok k → S0 j → ed j k → P k) → (∀ j k, ok k → P j → ed j k → P k) → P k
theorem Cl.root {S0 rt ok : Nat → Prop} {ed : Nat → Nat → Prop} {k : Nat} (h1 : ok k) (h2 : rt k) : Cl S0 rt ok ed k := fun _ a _ _ => a k h1 h2
theorem Cl.src {S0 rt ok : Nat → Prop} {ed : Nat → Nat → Prop} {j k : Nat} (h1 : ok k) (h2 : S0 j) (h3 : ed j k) : Cl S0 rt ok ed k := fun _ _ b _ => b j k h1 h2 h3
theorem Cl.step {S0 rt ok : Nat → Prop} {ed : Nat → Nat → Prop} {j k : Nat} (h1 : ok k) (h2 : Cl S0 rt ok ed j) (h3 : ed j k) : Cl S0 rt ok ed k := fun P a b c => c j k h1 (h2 P a b c) h3
theorem Cl.ok {S0 rt ok : Nat → Prop} {ed : Nat → Nat → Prop} {k : Nat} (h : Cl S0 rt ok ed k) : ok k := h ok (fun _ h _ => h) (fun _ _ h _ _ => h) (fun _ _ h _ _ => h)
noncomputable def one (P : Prop) : Nat := @ite Nat P (Classical.propDecidable P) 1 0
theorem one_pos {P : Prop} (h : P) : one P = 1 := by unfold one; exact if_pos h
theorem one_neg {P : Prop} (h : ¬ P) : one P = 0 := by unfold one; exact if_neg h
theorem one_le (P : Prop) : one P ≤ 1 := by
  by_cases h : P
  · rw [one_pos h]; exact Nat.le_refl _
  · rw [one_neg h]; omega
noncomputable def cnt (P : Nat → Prop) : Nat → Nat
  | 0 => 0
  | k + 1 => cnt P k + one (P k)
theorem cnt_le {P Q : Nat → Prop} : ∀ n : Nat, (∀ k, k < n → P k → Q k) → cnt P n ≤ cnt Q n := by
  intro n
  induction n with
  | zero => intro _; exact Nat.le_refl _
  | succ n ih =>
    intro h
    have h1 := ih (fun k hk => h k (by omega))
    unfold cnt
    by_cases hp : P n
    · rw [one_pos hp, one_pos (h n (by omega) hp)]; omega
    · rw [one_neg hp]; omega
theorem cnt_lt {P Q : Nat → Prop} {i : Nat} (hp : ¬ P i) (hq : Q i) : ∀ n : Nat, (∀ k, k < n → P k → Q k) → i < n → cnt P n < cnt Q n := by
  intro n
  induction n with
  | zero => intro _ h; omega
  | succ n ih =>
    intro h hi
    unfold cnt
    by_cases hin : i = n
    · subst hin
      have := cnt_le i (fun k hk => h k (by omega))
      rw [one_neg hp, one_pos hq]; omega
    · have := ih (fun k hk => h k (by omega)) (by omega)
      by_cases hp' : P n
      · rw [one_pos hp', one_pos (h n (by omega) hp')]; omega
      · rw [one_neg hp']; omega
theorem cnt_n (P : Nat → Prop) : ∀ n : Nat, cnt P n ≤ n := by
  intro n
  induction n with
  | zero => exact Nat.le_refl _
  | succ n ih =>
    unfold cnt
    have := one_le (P n)
    omega
theorem cnt_add {P Q : Nat → Prop} : ∀ n : Nat, (∀ k, k < n → ¬ (P k ∧ Q k)) → cnt P n + cnt Q n ≤ n := by
  intro n
  induction n with
  | zero => intro _; exact Nat.le_refl _
  | succ n ih =>
    intro h
    have h1 := ih (fun k hk => h k (by omega))
    unfold cnt
    by_cases hp : P n
    · rw [one_pos hp, one_neg (fun hq => h n (by omega) ⟨hp, hq⟩)]; omega
    · rw [one_neg hp]
      have := one_le (Q n)
      omega
theorem cnt_one {P Q : Nat → Prop} {i : Nat} (hp : ¬ P i) : ∀ n : Nat, (∀ k, k < n → (Q k ↔ P k ∨ k = i)) → cnt Q n = cnt P n + if i < n then 1 else 0 := by
  intro n
  induction n with
  | zero => intro _; rfl
  | succ n ih =>
    intro h
    have h1 := ih (fun k hk => h k (by omega))
    unfold cnt
    rw [h1]
    have h2 := h n (by omega)
    by_cases hin : i = n
    · subst hin
      rw [one_neg hp, one_pos (h2.mpr (Or.inr rfl)), if_neg (by omega), if_pos (by omega)]
    · by_cases hp' : P n
      · rw [one_pos hp', one_pos (h2.mpr (Or.inl hp'))]
        by_cases hlt : i < n
        · rw [if_pos hlt, if_pos (by omega)]
        · rw [if_neg hlt, if_neg (by omega)]
      · rw [one_neg hp', one_neg (fun hq => by rcases h2.mp hq with h | h; exact hp' h; exact hin h.symm)]
        by_cases hlt : i < n
        · rw [if_pos hlt, if_pos (by omega)]
        · rw [if_neg hlt, if_neg (by omega)]
theorem cnt_congr {P Q : Nat → Prop} (n : Nat) (h : ∀ k, k < n → (P k ↔ Q k)) : cnt P n = cnt Q n :=
  Nat.le_antisymm (cnt_le n (fun k hk => (h k hk).mp)) (cnt_le n (fun k hk => (h k hk).mpr))
/-- a phase of the scan -/
def Ph : Type := (Nat) × (Nat) × (St) × (St) × (Int32) × (Nat) × (Nat → Int32) × (Nat) × (Nat) × (Nat → Prop) × (Nat → Prop) × (Nat → Prop)
def Ph.m (A : Ph) : Nat := A.1
def Ph.n (A : Ph) : Nat := A.2.1
def Ph.σ0 (A : Ph) : St := A.2.2.1
def Ph.τ0 (A : Ph) : St := A.2.2.2.1
def Ph.c (A : Ph) : Int32 := A.2.2.2.2.1
def Ph.w (A : Ph) : Nat := A.2.2.2.2.2.1
def Ph.v0 (A : Ph) : Nat → Int32 := A.2.2.2.2.2.2.1
def Ph.s0 (A : Ph) : Nat := A.2.2.2.2.2.2.2.1
def Ph.i0 (A : Ph) : Nat := A.2.2.2.2.2.2.2.2.1
def Ph.S0 (A : Ph) : Nat → Prop := A.2.2.2.2.2.2.2.2.2.1
def Ph.rt (A : Ph) : Nat → Prop := A.2.2.2.2.2.2.2.2.2.2.1
def Ph.ok (A : Ph) : Nat → Prop := A.2.2.2.2.2.2.2.2.2.2.2
def Ph.C (A : Ph) : Nat → Prop := Cl A.S0 A.rt A.ok (ED A.τ0 A.n A.w)
def Ph.good (A : Ph) : Prop := SC A.m A.n A.σ0 A.τ0 ∧ A.s0 + cnt A.ok A.n ≤ 10 ∧ (∀ k, A.ok k → k < A.n ∧ A.τ0 13 k = 0) ∧
  ((A.c = 1 ∧ A.w = 2 ∧ ∀ k, k < A.n → A.τ0 13 k = 0 → (A.ok k ↔ A.v0 k = 0)) ∨ (A.c = 2 ∧ A.w = 1 ∧ ∀ k, k < A.n → A.τ0 13 k = 0 → (A.ok k ↔ A.v0 k = 0)) ∨
   (A.c = 4 ∧ A.w = 1 ∧ 1 ≤ A.s0 ∧ A.i0 < A.n ∧ ∀ k, k < A.n → A.τ0 13 k = 0 → (A.ok k ↔ (k ≠ A.i0 ∧ (A.v0 k = 0 ∨ A.v0 k = 3)))))
theorem Ph.good.fresh {A : Ph} (h : A.good) {k : Nat} (hk : A.ok k) : A.v0 k ≠ A.c := by
  obtain ⟨h1, h2, h3, h4⟩ := h
  obtain ⟨a, b⟩ := h3 k hk
  rcases h4 with ⟨e1, e2, e3⟩ | ⟨e1, e2, e3⟩ | ⟨e1, e2, e4, e5, e3⟩
  · rw [(e3 k a b).mp hk, e1]; decide
  · rw [(e3 k a b).mp hk, e1]; decide
  · rw [e1]
    rcases ((e3 k a b).mp hk).2 with h | h <;> rw [h] <;> decide
def PI (A : Ph) (σ : St) (s : Nat) : Prop :=
  (σ 28 0 = nI s ∧ s = A.s0 + cnt (fun k => A.ok k ∧ σ 26 k = A.c) A.n) ∧
  (∀ t, t < s → ∃ k, k < A.n ∧ A.τ0 13 k = 0 ∧ σ 27 t = nI k ∧ (A.S0 k ∨ A.C k)) ∧
  (∀ k, A.S0 k → ∃ t, t < s ∧ σ 27 t = nI k) ∧
  (∀ k, A.ok k → σ 26 k = A.c → A.C k ∧ ∃ t, t < s ∧ σ 27 t = nI k) ∧
  (∀ k, ¬ (A.ok k ∧ σ 26 k = A.c) → σ 26 k = A.v0 k) ∧
  (∀ v, v ≠ 26 → v ≠ 27 → v ≠ 28 → σ v = A.σ0 v) ∧ (A.c = 4 → σ 27 0 = nI A.i0)
def Ext (A : Ph) (σ : St) (s : Nat) (σ' : St) (s' : Nat) : Prop := s ≤ s' ∧ (∀ t, t < s → σ' 27 t = σ 27 t) ∧ ∀ k, A.ok k → σ 26 k = A.c → σ' 26 k = A.c
def dn (A : Ph) (σ : St) (x : Int32) : Prop := ∀ i, LD A.τ0 A.n A.w x i → A.ok i → σ 26 i = A.c
theorem Ext.refl (A : Ph) (σ : St) (s : Nat) : Ext A σ s σ s := ⟨Nat.le_refl _, fun _ _ => rfl, fun _ _ h => h⟩
theorem Ext.trans {A : Ph} {σ σ' σ'' : St} {s s' s'' : Nat} (h : Ext A σ s σ' s') (h' : Ext A σ' s' σ'' s'') : Ext A σ s σ'' s'' :=
  ⟨Nat.le_trans h.1 h'.1, fun t ht => by rw [h'.2.1 t (Nat.lt_of_lt_of_le ht h.1), h.2.1 t ht], fun k hk e => h'.2.2 k hk (h.2.2 k hk e)⟩
theorem dn.ext {A : Ph} {σ σ' : St} {s s' : Nat} {x : Int32} (h : dn A σ x) (he : Ext A σ s σ' s') : dn A σ' x := fun i h1 h2 => he.2.2 i h2 (h i h1 h2)
theorem takes_eq {A : Ph} (hA : A.good) {σ : St} {s : Nat} (hP : PI A σ s) {k : Nat} {x : Int32} (hk : k < A.n) (hl : A.τ0 13 k = 0) :
    (zf_LS_takes σ (nI k) x A.c = some 1 ∧ A.ok k ∧ ¬ σ 26 k = A.c ∧ (A.w = 2 → x = A.τ0 11 k)) ∨ (zf_LS_takes σ (nI k) x A.c = some 0 ∧ ¬ (A.ok k ∧ ¬ σ 26 k = A.c ∧ (A.w = 2 → x = A.τ0 11 k))) := by
  obtain ⟨⟨p1, p2⟩, p3, p4, p5, p6, p7, p8⟩ := hP
  obtain ⟨h1, h2, h3, h4⟩ := hA
  have hn := h1.1
  have hk10 : k < 10 := by omega
  obtain ⟨a, z, t, hb, ht, s1, s2, s3⟩ := h1.blk hk
  have hv : ∀ y : Int32, y ≠ A.c → (σ 26 k = y ↔ (A.v0 k = y ∧ ¬ (A.ok k ∧ σ 26 k = A.c))) := by
    intro y hy
    constructor
    · intro e
      have hno : ¬ (A.ok k ∧ σ 26 k = A.c) := fun hh => hy (by rw [← e]; exact hh.2)
      exact ⟨by rw [← p6 k hno]; exact e, hno⟩
    · intro ⟨e, hno⟩
      rw [p6 k hno]; exact e
  unfold zf_LS_takes
  simp only [px_ck hk10 (show 10 < 2 ^ 31 by omega), px_cl (show k < 2 ^ 31 by omega), px_k0, px_k1]
  rcases h4 with ⟨e1, e2, e3⟩ | ⟨e1, e2, e3⟩ | ⟨e1, e2, e4, e5, e3⟩
  · have hh := hv 0 (by rw [e1]; decide)
    have hadr : zf_He_address σ (nI k) = some (A.τ0 11 k) := by
      unfold zf_He_address
      rw [px_ck hk10 (by omega), px_cl (by omega), p7 19 (by omega) (by omega) (by omega), s1, hb.1]
    rw [e1, if_pos rfl, hadr, Option.bind_some]
    by_cases c0 : σ 26 k = 0
    · rw [if_pos c0]
      obtain ⟨c1, c2⟩ := hh.mp c0
      have hok := (e3 k hk hl).mpr c1
      by_cases cx : x = A.τ0 11 k
      · rw [if_pos cx]
        exact Or.inl ⟨rfl, hok, by rw [c0]; decide, fun _ => cx⟩
      · rw [if_neg cx]
        exact Or.inr ⟨rfl, fun hx => cx (hx.2.2 e2)⟩
    · rw [if_neg c0]
      refine Or.inr ⟨rfl, fun hx => c0 (hh.mpr ⟨(e3 k hk hl).mp hx.1, fun hy => hx.2.1 ?_⟩)⟩
      rw [← e1]; exact hy.2
  · have hh := hv 0 (by rw [e1]; decide)
    rw [e1, if_neg (show ¬ (2 : Int32) = 1 by decide), if_pos rfl]
    by_cases c0 : σ 26 k = 0
    · rw [if_pos c0]
      obtain ⟨c1, c2⟩ := hh.mp c0
      exact Or.inl ⟨rfl, (e3 k hk hl).mpr c1, by rw [c0]; decide, fun h => by omega⟩
    · rw [if_neg c0]
      refine Or.inr ⟨rfl, fun hx => c0 (hh.mpr ⟨(e3 k hk hl).mp hx.1, fun hy => hx.2.1 ?_⟩)⟩
      rw [← e1]; exact hy.2
  · have hh := hv 0 (by rw [e1]; decide)
    have hh3 := hv 3 (by rw [e1]; decide)
    rw [e1, if_neg (show ¬ (4 : Int32) = 1 by decide), if_neg (show ¬ (4 : Int32) = 2 by decide)]
    rw [show (0 : Int32).toNatClampNeg = 0 from rfl, p8 e1, show zz_ck (0 : Int32) 10 = zz_ck (nI 0) 10 from rfl]
    simp only [px_ck (show 0 < 10 by omega) (show 10 < 2 ^ 31 by omega)]
    by_cases ci : k = A.i0
    · rw [if_pos (by rw [ci])]
      exact Or.inr ⟨rfl, fun hx => ((e3 k hk hl).mp hx.1).1 ci⟩
    · rw [if_neg (fun e => ci ((nI_eq (by omega) (by omega)).mp e))]
      by_cases c0 : σ 26 k = 0
      · rw [if_pos c0]
        obtain ⟨c1, c2⟩ := hh.mp c0
        exact Or.inl ⟨rfl, (e3 k hk hl).mpr ⟨ci, Or.inl c1⟩, by rw [c0]; decide, fun h => by omega⟩
      · rw [if_neg c0]
        by_cases c3 : σ 26 k = 3
        · rw [if_pos c3]
          obtain ⟨c1, c2⟩ := hh3.mp c3
          exact Or.inl ⟨rfl, (e3 k hk hl).mpr ⟨ci, Or.inr c1⟩, by rw [c3]; decide, fun h => by omega⟩
        · rw [if_neg c3]
          refine Or.inr ⟨rfl, fun hx => ?_⟩
          have hno : ¬ (A.ok k ∧ σ 26 k = A.c) := fun hy => hx.2.1 (by rw [← e1]; exact hy.2)
          rcases ((e3 k hk hl).mp hx.1).2 with h | h
          · exact c0 (hh.mpr ⟨h, hno⟩)
          · exact c3 (hh3.mpr ⟨h, hno⟩)
