/-! what a lost block drags with it, in the reference -/
theorem bt_s : ∀ k : Nat, k < 10 → ((nI k &&& 31).toBitVec.smod 32).toNat = k := by decide
theorem bt_sh : ∀ k : Nat, k < 10 → (1 : Int32) <<< (nI k &&& 31) = nI (2 ^ k) := by decide
theorem bt_get {M k : Nat} (hM : M < 1024) (hk : k < 10) : (((nI M >>> (nI k &&& 31)) &&& (1 : Int32)) = 0) ↔ ¬ M.testBit k = true := by
  rw [pk_shrN (by omega) _ k (bt_s k hk), pk_andN (Nat.lt_of_le_of_lt (Nat.div_le_self _ _) (by omega)) 1 (by decide), px_eq0 (by omega), Nat.testBit_eq_decide_div_mod_eq, decide_eq_true_eq]
  have := Nat.mod_lt (M / 2 ^ k) (show 0 < 2 by omega)
  rw [Nat.pow_one]
  omega
theorem bt_or (a b : Nat) : nI a ||| nI b = nI (a ||| b) := by
  apply Int32.toBitVec_inj.mp
  rw [Int32.toBitVec_or]
  show BitVec.ofNat 32 a ||| BitVec.ofNat 32 b = BitVec.ofNat 32 (a ||| b)
  rw [BitVec.ofNat_or]
def Ph.drg (A : Ph) (u0 : Nat → Int32) : Prop := SC A.m A.n A.σ0 A.τ0 ∧ A.c = 4 ∧ A.w = 1 ∧ A.i0 < A.n ∧ (∀ k, A.S0 k ↔ k = A.i0) ∧ (∀ k, ¬ A.rt k) ∧ ∀ k, A.ok k ↔ (k < A.n ∧ A.τ0 13 k = 0 ∧ k ≠ A.i0 ∧ (u0 k = 0 ∨ u0 k = 3))
def msk (A : Ph) (τ : St) (M : Nat) : Prop := M < 1024 ∧ ∀ q, q < A.n → (M.testBit q = true ↔ (q = A.i0 ∨ tkn A τ q))
theorem r73 {A : Ph} {u0 : Nat → Int32} (hA : A.drg u0) (kx : St → Int32 → Int32 → Int32 → Int32 → Option St) {τ : St} (hM : MI A u0 τ) {M k : Nat} (hm : M < 1024) (hk : k < A.n) (x3 : Int32) :
    ∀ f q : Nat, q ≤ A.n → A.n - q < f → (zf_Mo_drag_L73 kx f τ (nI M) x3 (nI k) 0 (nI q) = kx τ (nI M) x3 (nI k) 1 ∧ ∃ q', q' < A.n ∧ M.testBit q' = true ∧ ED A.τ0 A.n 1 q' k) ∨ (zf_Mo_drag_L73 kx f τ (nI M) x3 (nI k) 0 (nI q) = kx τ (nI M) x3 (nI k) 0 ∧ ∀ q', q ≤ q' → q' < A.n → M.testBit q' = true → ¬ ED A.τ0 A.n 1 q' k) := by
  have hS := hA.1
  have hn := hS.1
  intro f
  induction f with
  | zero => intro q h1 h2; omega
  | succ f ih =>
    intro q hq hf
    rw [zf_Mo_drag_L73, hM.1 20 (by omega), hS.2.2.2]
    by_cases h : q = A.n
    · subst h
      rw [if_pos (nI_le (Nat.le_refl _) (by omega))]
      exact Or.inr ⟨rfl, fun q' h1 h2 => by omega⟩
    · have hqn : q < A.n := by omega
      rw [if_neg (nI_ge hqn (by omega)), if_pos rfl, nI_1]
      have next : (M.testBit q = true → ¬ ED A.τ0 A.n 1 q k) → (zf_Mo_drag_L73 kx f τ (nI M) x3 (nI k) 0 (nI (q + 1)) = kx τ (nI M) x3 (nI k) 1 ∧ ∃ q', q' < A.n ∧ M.testBit q' = true ∧ ED A.τ0 A.n 1 q' k) ∨ (zf_Mo_drag_L73 kx f τ (nI M) x3 (nI k) 0 (nI (q + 1)) = kx τ (nI M) x3 (nI k) 0 ∧ ∀ q', q ≤ q' → q' < A.n → M.testBit q' = true → ¬ ED A.τ0 A.n 1 q' k) := by
        intro hno
        rcases ih (q + 1) (by omega) (by omega) with h | ⟨h1, h2⟩
        · exact Or.inl h
        · refine Or.inr ⟨h1, fun q' a b => ?_⟩
          by_cases hqq : q' = q
          · subst hqq; exact hno
          · exact h2 q' (by omega) b
      have hb := bt_get (k := q) hm (by omega)
      by_cases hbit : M.testBit q = true
      · rw [if_neg (fun e => hb.mp e hbit)]
        obtain ⟨r, l1, l2, l3⟩ := bl_eq hS τ hM.1 hk hqn
        rw [l2, Option.bind_some]
        by_cases hr : r = 0
        · rw [if_pos ((px_le0 (by omega)).mpr hr)]
          exact next (fun _ he => by have := (l3 1 (Or.inl rfl)).mpr he; omega)
        · rw [if_neg (fun e => hr ((px_le0 (by omega)).mp e))]
          left
          refine ⟨?_, q, hqn, hbit, (l3 1 (Or.inl rfl)).mp (by omega)⟩
          obtain ⟨f', rfl⟩ : ∃ f', f = f' + 1 := ⟨f - 1, by omega⟩
          rw [zf_Mo_drag_L73, if_neg (show ¬ (1 : Int32) = 0 by decide), ite_self]
      · rw [if_pos (hb.mpr hbit)]
        exact next (fun h => absurd h hbit)
theorem r15 {A : Ph} {u0 : Nat → Int32} (hA : A.drg u0) (kx : St → Int32 → Int32 → Option St) :
    ∀ (f k M : Nat) (τ : St) (x3 : Int32), k ≤ A.n → A.n - k < f → MI A u0 τ → msk A τ M → ∃ (τ' : St) (M' : Nat) (y3 : Int32), zf_Mo_drag_L15 kx f τ (nI M) x3 (nI k) = kx τ' (nI M') y3 ∧ MI A u0 τ' ∧ msk A τ' M' ∧ (∀ j, tkn A τ j → tkn A τ' j) ∧
      (∀ i, k ≤ i → A.ok i → ¬ tkn A τ' i → ∀ q, q < A.n → (q = A.i0 ∨ tkn A τ q) → ¬ ED A.τ0 A.n A.w q i) ∧ ((y3 = x3 ∧ ∀ j, tkn A τ' j → tkn A τ j) ∨ (y3 = 1 ∧ ∃ i, tkn A τ' i ∧ ¬ tkn A τ i)) := by
  have hA' := hA
  obtain ⟨hS, hc, hw, hi0, hS0, hrt, hok⟩ := hA
  have hn := hS.1
  intro f
  induction f with
  | zero => intro k M τ x3 h1 h2; omega
  | succ f ih =>
    intro k M τ x3 hk hf hM hm
    obtain ⟨m1, m2, m3⟩ := id hM
    rw [zf_Mo_drag_L15, m1 20 (by omega), hS.2.2.2]
    by_cases h : k = A.n
    · subst h
      rw [if_pos (nI_le (Nat.le_refl _) (by omega))]
      exact ⟨τ, M, x3, rfl, hM, hm, fun _ h => h, fun i hi hoi => by have := ((hok i).mp hoi).1; omega, Or.inl ⟨rfl, fun _ h => h⟩⟩
    · have hkn : k < A.n := by omega
      have hk10 : k < 10 := by omega
      rw [if_neg (nI_ge hkn (by omega))]
      have skip : (A.ok k → tkn A τ k ∨ ∀ q, q < A.n → (q = A.i0 ∨ tkn A τ q) → ¬ ED A.τ0 A.n A.w q k) → ∃ (τ' : St) (M' : Nat) (y3 : Int32), zf_Mo_drag_L15 kx f τ (nI M) x3 (nI (k + 1)) = kx τ' (nI M') y3 ∧ MI A u0 τ' ∧ msk A τ' M' ∧ (∀ j, tkn A τ j → tkn A τ' j) ∧
          (∀ i, k ≤ i → A.ok i → ¬ tkn A τ' i → ∀ q, q < A.n → (q = A.i0 ∨ tkn A τ q) → ¬ ED A.τ0 A.n A.w q i) ∧ ((y3 = x3 ∧ ∀ j, tkn A τ' j → tkn A τ j) ∨ (y3 = 1 ∧ ∃ i, tkn A τ' i ∧ ¬ tkn A τ i)) := by
        intro hno
        obtain ⟨τ', M', y3, g1, g2, g3, g4, g5, g6⟩ := ih (k + 1) M τ x3 (by omega) (by omega) hM hm
        refine ⟨τ', M', y3, g1, g2, g3, g4, fun i hi hoi hni => ?_, g6⟩
        by_cases hik : i = k
        · subst hik
          rcases hno hoi with h | h
          · exact absurd (g4 i h) hni
          · exact h
        · exact g5 i (by omega) hoi hni
      have hb := bt_get (k := k) hm.1 hk10
      have hmk := hm.2 k hkn
      by_cases hbit : M.testBit k = true
      · rw [if_neg (fun e => hb.mp e hbit), nI_1]
        refine skip (fun hoi => ?_)
        rcases hmk.mp hbit with h | h
        · exact absurd h ((hok k).mp hoi).2.2.1
        · exact Or.inl h
      · rw [if_pos (hb.mpr hbit)]
        have hki : k ≠ A.i0 := fun e => hbit (hmk.mpr (Or.inl e))
        have hnt : ¬ tkn A τ k := fun e => hbit (hmk.mpr (Or.inr e))
        have h14u := m3 k hnt
        obtain ⟨a, z, t, hb', ht, -⟩ := hS.blk hkn
        have l0 := px_lt0 (show t < 2 ^ 31 by omega)
        have z0 := px_eq0 (show t < 2 ^ 31 by omega)
        rw [px_ck hk10 (by omega), px_cl (by omega), m1 13 (by omega)]
        by_cases h13 : 0 < A.τ0 13 k
        · rw [if_pos h13, nI_1]
          refine skip (fun hoi => ?_)
          have := ((hok k).mp hoi).2.1
          rw [this] at h13
          exact absurd h13 (by decide)
        · have hl : A.τ0 13 k = 0 := by
            rw [hb'.2.2.1] at h13 ⊢
            exact z0.mpr (Decidable.byContradiction (fun e => h13 (l0.mpr e)))
          rw [if_neg h13, px_ck hk10 (by omega)]
          have drag : A.ok k → ∃ (τ' : St) (M' : Nat) (y3 : Int32), zf_Mo_drag_L73 (fun s7 s7_2 s7_3 s7_4 s7_5 => if s7_5 = 0 then zf_Mo_drag_L15 kx f s7 s7_2 s7_3 (s7_4 + (1 : Int32)) else zz_ck s7_4 10 (zf_Mo_drag_L15 kx f (zz_put s7 14 s7_4.toNatClampNeg (4 : Int32)) (s7_2 ||| ((1 : Int32) <<< (s7_4 &&& 31))) (1 : Int32) (s7_4 + (1 : Int32)))) 300 τ (nI M) x3 (nI k) (0 : Int32) (0 : Int32) = kx τ' (nI M') y3 ∧ MI A u0 τ' ∧ msk A τ' M' ∧ (∀ j, tkn A τ j → tkn A τ' j) ∧
              (∀ i, k ≤ i → A.ok i → ¬ tkn A τ' i → ∀ q, q < A.n → (q = A.i0 ∨ tkn A τ q) → ¬ ED A.τ0 A.n A.w q i) ∧ ((y3 = x3 ∧ ∀ j, tkn A τ' j → tkn A τ j) ∨ (y3 = 1 ∧ ∃ i, tkn A τ' i ∧ ¬ tkn A τ i)) := by
            intro hoi
            rcases r73 hA' (fun s7 s7_2 s7_3 s7_4 s7_5 => if s7_5 = 0 then zf_Mo_drag_L15 kx f s7 s7_2 s7_3 (s7_4 + (1 : Int32)) else zz_ck s7_4 10 (zf_Mo_drag_L15 kx f (zz_put s7 14 s7_4.toNatClampNeg (4 : Int32)) (s7_2 ||| ((1 : Int32) <<< (s7_4 &&& 31))) (1 : Int32) (s7_4 + (1 : Int32)))) hM hm.1 hkn x3 300 0 (by omega) (by omega) with ⟨e1, q, hq, hqb, hqe⟩ | ⟨e1, e2⟩
            · rw [show (nI 0 : Int32) = 0 from rfl] at e1
              rw [e1]
              simp only [if_neg (show ¬ (1 : Int32) = 0 by decide), px_ck hk10 (show 10 < 2 ^ 31 by omega), px_cl (show k < 2 ^ 31 by omega), bt_sh k hk10, bt_or, nI_1]
              have hCk : A.C k := by
                rcases (hm.2 q hq).mp hqb with h | h
                · exact Cl.src hoi ((hS0 q).mpr h) (by rw [hw]; exact hqe)
                · exact Cl.step hoi (m2 q h.1 h.2) (by rw [hw]; exact hqe)
              obtain ⟨a1, a2, a3, a4⟩ := hM.put hoi hCk
              rw [hc] at a1 a2 a3 a4
              have hmsk : msk A (zz_put τ 14 k 4) (M ||| 2 ^ k) := by
                refine ⟨Nat.or_lt_two_pow (n := 10) hm.1 (Nat.pow_lt_pow_right (by omega) hk10), fun q hq => ?_⟩
                rw [Nat.testBit_or, Nat.testBit_two_pow, Bool.or_eq_true, hm.2 q hq, decide_eq_true_eq]
                constructor
                · rintro ((h | h) | h)
                  · exact Or.inl h
                  · exact Or.inr (a2 q h)
                  · subst h; exact Or.inr a3
                · rintro (h | h)
                  · exact Or.inl (Or.inl h)
                  · rcases a4 q h with h' | h'
                    · exact Or.inr h'.symm
                    · exact Or.inl (Or.inr h')
              obtain ⟨τ', M', y3, g1, g2, g3, g4, g5, g6⟩ := ih (k + 1) (M ||| 2 ^ k) (zz_put τ 14 k 4) 1 (by omega) (by omega) a1 hmsk
              refine ⟨τ', M', y3, g1, g2, g3, fun j hj => g4 j (a2 j hj), fun i hi hoi' hni => ?_, Or.inr ⟨?_, k, g4 k a3, hnt⟩⟩
              · by_cases hik : i = k
                · subst hik; exact absurd (g4 i a3) hni
                · intro q hq hqq
                  refine g5 i (by omega) hoi' hni q hq ?_
                  rcases hqq with h | h
                  · exact Or.inl h
                  · exact Or.inr (a2 q h)
              · rcases g6 with ⟨h, -⟩ | ⟨h, -⟩ <;> exact h
            · rw [show (nI 0 : Int32) = 0 from rfl] at e1
              rw [e1]
              simp only [if_pos, nI_1]
              refine skip (fun _ => Or.inr (fun q hq hqq => ?_))
              rw [hw]
              exact e2 q (by omega) hq ((hm.2 q hq).mpr hqq)
          by_cases h140 : τ 14 k = 0
          · rw [if_pos h140]
            exact drag ((hok k).mpr ⟨hkn, hl, hki, Or.inl (by rw [← h14u]; exact h140)⟩)
          · rw [if_neg h140, px_ck hk10 (by omega)]
            by_cases h143 : τ 14 k = 3
            · rw [if_pos h143]
              exact drag ((hok k).mpr ⟨hkn, hl, hki, Or.inr (by rw [← h14u]; exact h143)⟩)
            · rw [if_neg h143, nI_1]
              refine skip (fun hoi => ?_)
              rcases ((hok k).mp hoi).2.2.2 with h | h
              · exact absurd (h14u.trans h) h140
              · exact absurd (h14u.trans h) h143
theorem r6 {A : Ph} {u0 : Nat → Int32} (hA : A.drg u0) (kx : St → Option St) :
    ∀ (f M : Nat) (τ : St), A.n + 1 - cnt (tkn A τ) A.n < f → MI A u0 τ → msk A τ M → ∃ τ', zf_Mo_drag_L6 kx f τ (nI M) 1 = kx τ' ∧ MI A u0 τ' ∧ full A τ' := by
  have hn := hA.1.1
  have hw := hA.2.2.1
  have hi0 := hA.2.2.2.1
  have hS0 := hA.2.2.2.2.1
  have hrt := hA.2.2.2.2.2.1
  have hok := hA.2.2.2.2.2.2
  intro f
  induction f with
  | zero => intro M τ h1; omega
  | succ f ih =>
    intro M τ hf hM hm
    have hcn := cnt_n (tkn A τ) A.n
    rw [zf_Mo_drag_L6, if_neg (show ¬ (1 : Int32) = 0 by decide)]
    obtain ⟨τ', M', y3, g1, g2, g3, g4, g5, g6⟩ := r15 hA (fun s16 s16_2 s16_3 => zf_Mo_drag_L6 kx f s16 s16_2 s16_3) 300 0 M τ 0 (by omega) (by omega) hM hm
    rw [show (nI 0 : Int32) = 0 from rfl] at g1
    rw [g1]
    rcases g6 with ⟨rfl, g6⟩ | ⟨rfl, i, g6, g7⟩
    · obtain ⟨f', rfl⟩ : ∃ f', f = f' + 1 := ⟨f - 1, by omega⟩
      rw [zf_Mo_drag_L6, if_pos rfl]
      refine ⟨τ', rfl, g2, fun k hk => ?_⟩
      have key : A.ok k ∧ τ' 14 k = A.c := by
        refine hk (fun k => A.ok k ∧ τ' 14 k = A.c) (fun k a b => absurd b (hrt k)) (fun j k a b c => ?_) (fun j k a b c => ?_)
        · have hj := (hS0 j).mp b
          exact Classical.byContradiction (fun hh => g5 k (by omega) a hh j (by omega) (Or.inl hj) c)
        · exact Classical.byContradiction (fun hh => g5 k (by omega) a hh j ((hok j).mp b.1).1 (Or.inr (g6 j b)) c)
      exact key.2
    · have := cnt_lt (P := tkn A τ) (Q := tkn A τ') g7 g6 A.n (fun k _ h => g4 k h) ((hok i).mp g6.1).1
      exact ih M' τ' (by omega) g2 g3
theorem drag_eq {A : Ph} {u0 : Nat → Int32} (hA : A.drg u0) {τ : St} (hM : MI A u0 τ) (hno : ∀ k, ¬ tkn A τ k) : ∃ τ', zf_Mo_drag τ (nI A.i0) = some τ' ∧ MI A u0 τ' ∧ full A τ' := by
  have hn := hA.1.1
  have hi0 := hA.2.2.2.1
  have hi10 : A.i0 < 10 := by omega
  unfold zf_Mo_drag
  rw [bt_sh A.i0 hi10]
  refine r6 hA (fun s18 => some s18) 300 (2 ^ A.i0) τ (by omega) hM ⟨show 2 ^ A.i0 < 2 ^ 10 from Nat.pow_lt_pow_right (by omega) hi10, fun q hq => ?_⟩
  rw [Nat.testBit_two_pow, decide_eq_true_eq]
  constructor
  · intro h; exact Or.inl h.symm
  · rintro (h | h)
    · exact h.symm
    · exact absurd h (hno q)
