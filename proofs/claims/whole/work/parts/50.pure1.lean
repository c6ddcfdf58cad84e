/-! THE PURE PART: the class's functions and the reference's answer alike -/
theorem px_at (σ : St) (v i : Nat) (x : Int32) (w : Nat) : zz_put σ v i x w = if w = v then upd (σ v) i x else σ w := rfl
theorem px_upd (f : Nat → Int32) (k : Nat) (x : Int32) (j : Nat) : upd f k x j = if j = k then x else f j := rfl
theorem px_k0 {α : Type} (r : Option α) : zz_kz 0 r = r := if_pos (Or.inl rfl)
theorem px_k1 {α : Type} (r : Option α) : zz_kz 1 r = r := if_pos (Or.inr rfl)
theorem px_kz {α : Type} {v : Int32} (h : v = 0 ∨ v = 1) (r : Option α) : zz_kz v r = r := if_pos h
theorem px_ck {α : Type} {i n : Nat} (h : i < n) (hn : n < 2 ^ 31) (r : Option α) : zz_ck (nI i) n r = r := if_neg (vp_in_nI h hn)
theorem px_ck' {α : Type} {x : Int32} {i n : Nat} (hx : x = nI i) (h : i < n) (hn : n < 2 ^ 31) (r : Option α) : zz_ck x n r = r := by rw [hx]; exact px_ck h hn r
theorem px_n0 : vp_nar .boolean 0 = 0 := by decide
theorem px_n1 : vp_nar .boolean 1 = 1 := by decide
theorem px_cl {n : Nat} (h : n < 2 ^ 31) : (nI n).toNatClampNeg = n := nI_clamp h
/-- x is in 0 .. n -/
def chk (x : Int32) (n : Nat) : Int32 := if x < 0 then 0 else if nI n < x then 0 else 1
theorem chk01 (x : Int32) (n : Nat) : chk x n = 0 ∨ chk x n = 1 := by
  unfold chk
  split
  · exact Or.inl rfl
  · split
    · exact Or.inl rfl
    · exact Or.inr rfl
theorem chk_in {x : Int32} {n : Nat} (hn : n < 2 ^ 31) (h : chk x n = 1) : ∃ j : Nat, j ≤ n ∧ x = nI j := by
  unfold chk at h
  by_cases h1 : x < 0
  · rw [if_pos h1] at h; exact absurd h (by decide)
  · rw [if_neg h1] at h
    by_cases h2 : nI n < x
    · rw [if_pos h2] at h; exact absurd h (by decide)
    · exact nI_of2 (M := nI n) (nI_toInt hn) h1 (Int32.not_lt.mp h2)
theorem chk_nI {j n : Nat} (h : j ≤ n) (hn : n < 2 ^ 31) : chk (nI j) n = 1 := by
  unfold chk
  rw [if_neg (nI_pos (by omega)), if_neg (nI_nlt h hn)]
theorem chk_in0 (x : Int32) (n : Nat) : zf_Mo_in x 0 (nI n) = some (chk x n) := by
  unfold zf_Mo_in chk
  rw [px_k0, px_k1]
  split
  · rfl
  · split <;> rfl
theorem chk_within (x : Int32) (n : Nat) : zf_SW_isWithin x (nI n) = some (chk x n) := by
  unfold zf_SW_isWithin chk
  rw [px_k0, px_k1]
  split
  · rfl
  · split <;> rfl
theorem px_ge (x : Int32) (n : Nat) (hn : n + 1 < 2 ^ 31) : (nI (n + 1) ≤ x) = (nI n < x) := by
  rw [Int32.le_iff_toInt_le, Int32.lt_iff_toInt_lt, nI_toInt hn, nI_toInt (by omega)]
  apply propext
  omega
theorem chk_re (x : Int32) : zf_Re_has x = some (chk x 7) := by
  unfold zf_Re_has chk
  rw [px_k0, px_k1, show (8 : Int32) = nI (7 + 1) from rfl]
  simp only [px_ge x 7 (by omega)]
  split
  · rfl
  · split <;> rfl
theorem chk_pr (x : Int32) : zf_Pr_has x = some (chk x 31) := by
  unfold zf_Pr_has chk
  rw [px_k0, px_k1, show (32 : Int32) = nI (31 + 1) from rfl]
  simp only [px_ge x 31 (by omega)]
  split
  · rfl
  · split <;> rfl
theorem chk_me (x : Int32) : zf_Me_has x 1 = some (chk x 255) := by
  unfold zf_Me_has chk
  rw [px_k0, px_k1, show (256 : Int32) - 1 = nI 255 from by decide]
  split
  · rfl
  · split <;> rfl
theorem px_bad0 (τ : St) : zf_Mo_bad τ 0 = some (1, zz_put τ 27 0 1) := by
  unfold zf_Mo_bad
  rw [if_pos rfl, if_pos rfl, px_k1]
theorem px_bad1 (τ : St) : zf_Mo_bad τ 1 = some (0, zz_put τ 27 0 0) := by
  unfold zf_Mo_bad
  rw [if_neg (by decide), if_neg (by decide), px_k0]
/-- the room of a block of z bytes -/
def rmz (z : Nat) : Nat := (z + 3) / 4 * 4
/-- an instruction that ends a piece -/
def isEnd (q0 : Nat → Int32) (p : Nat) : Prop := q0 p = 0 ∨ (¬ q0 p < 13 ∧ q0 p ≤ 16) ∨ p = 31
/-- the program: the same, and as code takes it -/
def RP (p0 p1 p2 p3 p4 q0 q1 q2 q3 q4 : Nat → Int32) : Prop := (p0 = q0 ∧ p1 = q1 ∧ p2 = q2 ∧ p3 = q3 ∧ p4 = q4) ∧ ∀ i : Nat, i < 32 → (∃ k : Nat, k ≤ 18 ∧ q0 i = nI k) ∧ (∃ k : Nat, k ≤ 7 ∧ q1 i = nI k) ∧ (∃ k : Nat, k ≤ 7 ∧ q2 i = nI k) ∧ ∃ k : Nat, k ≤ 7 ∧ q3 i = nI k
/-- memory: values, open, known -/
def RM (a0 a1 a2 b0 b1 b2 : Nat → Int32) : Prop := (a0 = b0 ∧ a1 = b1 ∧ a2 = b2) ∧ (∀ i, b1 i = 0 ∨ b1 i = 1) ∧ ∀ i, b2 i = 0 ∨ b2 i = 1
/-- registers: values, masks -/
def RR (a0 a1 b0 b1 : Nat → Int32) : Prop := (a0 = b0 ∧ a1 = b1) ∧ (∀ i, ∃ k : Nat, k ≤ 15 ∧ b1 i = nI k) ∧ b0 0 = 0 ∧ b1 0 = 15
/-- block k: address a, size z, resting since t -/
def Bk (q1 q2 q3 : Nat → Int32) (k a z t : Nat) : Prop := q1 k = nI a ∧ q2 k = nI z ∧ q3 k = nI t ∧ 68 ≤ a ∧ 1 ≤ z ∧ z ≤ 48 ∧ a + rmz z + 4 ≤ 224 ∧ a % 4 = 0
def RBi (c n : Nat) (pw q1 q2 q3 : Nat → Int32) : Prop := (∀ k : Nat, k < n → ∃ a z t : Nat, Bk q1 q2 q3 k a z t ∧ t ≤ c ∧ pw k = nI (a + rmz z + 4)) ∧
  ∀ k k' a z t a' z' t' : Nat, k < n → k' < n → k ≠ k' → Bk q1 q2 q3 k a z t → Bk q1 q2 q3 k' a' z' t' → a + rmz z + 8 ≤ a' ∨ a' + rmz z' + 8 ≤ a
/-- blocks: numbers, addresses, sizes, walls' ends, resting since; how many, how many ever, the clock -/
def RB (m : Nat) (p0 p1 p2 pw p3 : Nat → Int32) (pn pg pc : Int32) (q0 q1 q2 q3 : Nat → Int32) (qn qg qc : Int32) : Prop :=
  (p0 = q0 ∧ p1 = q1 ∧ p2 = q2 ∧ p3 = q3 ∧ pn = qn ∧ pg = qg ∧ pc = qc) ∧ ∃ c n : Nat, c ≤ m ∧ qc = nI c ∧ n ≤ 10 ∧ qn = nI n ∧ RBi c n pw q1 q2 q3
/-- findings -/
def RF (p0 p1 p2 p3 : Nat → Int32) (ps : Int32) (q0 q1 q2 q3 : Nat → Int32) (qs : Int32) : Prop := (p0 = q0 ∧ p1 = q1 ∧ p2 = q2 ∧ p3 = q3 ∧ ps = qs) ∧ ∃ s : Nat, s ≤ 24 ∧ qs = nI s
/-- the length of the piece that begins at p -/
def Len (q0 : Nat → Int32) (p n : Nat) : Prop := 1 ≤ n ∧ n ≤ 8 ∧ p + n ≤ 32 ∧ (∀ i : Nat, i + 1 < n → ¬ isEnd q0 (p + i)) ∧ (isEnd q0 (p + n - 1) ∨ n = 8)
def RL (l q0 q19 : Nat → Int32) : Prop := ∀ p : Nat, p < 32 → (q19 p = 0 ∧ l p = 0) ∨ (q19 p = 1 ∧ ∃ n : Nat, Len q0 p n ∧ l p = nI n)
/-- the machine: where, done, translated, stopped, faulted -/
def RX (pa pd pt ps pf qa qd qt qs : Int32) : Prop := (pa = qa ∧ pd = qd ∧ pt = qt ∧ ps = qs) ∧ (∃ p : Nat, p < 32 ∧ qa = nI p) ∧ (qs = 0 ∨ qs = 1) ∧ (pf = 0 ∨ (pf = 1 ∧ qs = 1))
/-- all but the machine -/
def Cor (m : Nat) (σ τ : St) : Prop :=
  RP (σ 5) (σ 6) (σ 7) (σ 8) (σ 9) (τ 0) (τ 1) (τ 2) (τ 3) (τ 4) ∧ RM (σ 0) (σ 1) (σ 2) (τ 5) (τ 6) (τ 7) ∧ RR (σ 3) (σ 4) (τ 8) (τ 9) ∧
  RB m (σ 18) (σ 19) (σ 20) (σ 21) (σ 22) (σ 23 0) (σ 24 0) (σ 25 0) (τ 10) (τ 11) (τ 12) (τ 13) (τ 20 0) (τ 21 0) (τ 22 0) ∧
  RF (σ 13) (σ 14) (σ 15) (σ 16) (σ 17 0) (τ 15) (τ 16) (τ 17) (τ 18) (τ 23 0) ∧ RL (σ 10) (τ 0) (τ 19)
/-- the relation between the class's state and the reference's, the clock at most m -/
def RelM (m : Nat) (σ τ : St) : Prop :=
  RP (σ 5) (σ 6) (σ 7) (σ 8) (σ 9) (τ 0) (τ 1) (τ 2) (τ 3) (τ 4) ∧ RM (σ 0) (σ 1) (σ 2) (τ 5) (τ 6) (τ 7) ∧ RR (σ 3) (σ 4) (τ 8) (τ 9) ∧
  RB m (σ 18) (σ 19) (σ 20) (σ 21) (σ 22) (σ 23 0) (σ 24 0) (σ 25 0) (τ 10) (τ 11) (τ 12) (τ 13) (τ 20 0) (τ 21 0) (τ 22 0) ∧
  RF (σ 13) (σ 14) (σ 15) (σ 16) (σ 17 0) (τ 15) (τ 16) (τ 17) (τ 18) (τ 23 0) ∧ RL (σ 10) (τ 0) (τ 19) ∧
  RX (σ 29 0) (σ 33 0) (σ 11 0) (σ 31 0) (σ 32 0) (τ 24 0) (τ 25 0) (τ 26 0) (τ 28 0)
theorem RelM_iff {m : Nat} {σ τ : St} : RelM m σ τ ↔ Cor m σ τ ∧ RX (σ 29 0) (σ 33 0) (σ 11 0) (σ 31 0) (σ 32 0) (τ 24 0) (τ 25 0) (τ 26 0) (τ 28 0) := by
  unfold RelM Cor
  simp only [and_assoc]
/-- j calls after the beginning -/
def Rel (j : Nat) (σ τ : St) : Prop := RelM (200 * j) σ τ
theorem RB.step {m m' : Nat} (hm : m ≤ m') {p0 p1 p2 pw p3 : Nat → Int32} {pn pg pc : Int32} {q0 q1 q2 q3 : Nat → Int32} {qn qg qc : Int32} (h : RB m p0 p1 p2 pw p3 pn pg pc q0 q1 q2 q3 qn qg qc) : RB m' p0 p1 p2 pw p3 pn pg pc q0 q1 q2 q3 qn qg qc := by
  obtain ⟨h1, c, n, h2, h3⟩ := h
  exact ⟨h1, c, n, by omega, h3⟩
theorem Rel.step {j : Nat} {σ τ : St} (h : Rel j σ τ) : Rel (j + 1) σ τ := by
  obtain ⟨h1, h2, h3, h4, h5⟩ := h
  exact ⟨h1, h2, h3, h4.step (by omega), h5⟩
theorem Rel.th {j : Nat} {σ τ : St} (h : Rel j σ τ) (x : Int32) : Rel j σ (zz_put τ 27 0 x) := by
  simpa [Rel, RelM, px_at] using h
