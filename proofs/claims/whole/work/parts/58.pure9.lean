/-! jumps -/
theorem fm_sign (x : Int32) : (0 ≤ x ^^^ 32) ↔ 0 ≤ x := by
  have h : ∀ y : Int32, (0 ≤ y) ↔ y.toBitVec.msb = false := by
    intro y
    rw [Int32.le_iff_toInt_le, BitVec.msb_eq_toInt]
    show (0 : Int) ≤ y.toBitVec.toInt ↔ _
    simp
  rw [h, h, Int32.toBitVec_xor, BitVec.msb_xor]
  have : (32 : Int32).toBitVec.msb = false := by decide
  rw [this]
  simp
theorem fm32 (x : Int32) : zf_Mt_floorMod x 32 = some (x &&& 31) := by
  have hm : x &&& 31 = nI (x.toBitVec.toNat % 32) := pk_and x 5 (by decide)
  unfold zf_Mt_floorMod zz_kn
  rw [if_neg (show ¬ (32 : Int32) = 0 by decide)]
  by_cases h : 0 ≤ x
  · rw [if_pos ((fm_sign x).mpr h)]
    obtain ⟨n, hn, rfl⟩ := nI_of (Int32.not_lt.mpr h)
    rw [show (32 : Int32) = nI 32 from rfl, pk_rem hn (by omega) (by omega), hm, pk_tn (by omega)]
  · rw [if_neg (fun h' => h ((fm_sign x).mp h'))]
    have hneg : x.toInt < 0 := by
      have := Int32.not_le.mp h
      have := Int32.lt_iff_toInt_lt.mp this
      simpa using this
    have hlo : -(2 ^ 31 : Int) ≤ x.toInt := Int32.le_toInt x
    have hbv : (x.toBitVec.toNat : Int) = x.toInt + 2 ^ 32 := by
      have e : x.toInt = x.toBitVec.toInt := rfl
      rw [e] at hneg ⊢
      rw [BitVec.toInt_eq_toNat_cond] at hneg ⊢
      split at hneg
      · omega
      · rename_i hh
        rw [if_neg hh]
        omega
    obtain ⟨t, ht⟩ : ∃ t : Nat, x.toInt = -(t : Int) := ⟨x.toInt.natAbs, by omega⟩
    have htd : x.toInt.tdiv 32 = -((t / 32 : Nat) : Int) := by
      rw [ht, Int.neg_tdiv, Int.tdiv_eq_ediv_of_nonneg (by omega)]
      rfl
    have hdiv : (x / 32).toInt = -((t / 32 : Nat) : Int) := by
      rw [Int32.toInt_div, show (32 : Int32).toInt = 32 from by decide, htd]
      simp only [Int.bmod]
      split <;> omega
    have hmul : (x / 32 * 32).toInt = -((t / 32 * 32 : Nat) : Int) := by
      rw [Int32.toInt_mul, hdiv, show (32 : Int32).toInt = 32 from by decide]
      simp only [Int.bmod]
      split <;> omega
    have hr : (x - x / 32 * 32).toInt = -((t % 32 : Nat) : Int) := by
      rw [Int32.toInt_sub, hmul, ht]
      simp only [Int.bmod]
      split <;> omega
    have hn : (nI (x.toBitVec.toNat % 32)).toInt = ((x.toBitVec.toNat % 32 : Nat) : Int) := nI_toInt (by omega)
    by_cases h0 : x - x / 32 * 32 = 0
    · rw [if_pos h0, hm]
      congr 1
      apply Int32.toInt_inj.mp
      rw [hn, hr]
      rw [h0] at hr
      simp at hr
      omega
    · rw [if_neg h0, hm]
      congr 1
      apply Int32.toInt_inj.mp
      have h1 : t % 32 ≠ 0 := by
        intro e
        apply h0
        apply Int32.toInt_inj.mp
        rw [hr, e]
        rfl
      rw [hn, Int32.toInt_add, hr, show (32 : Int32).toInt = 32 from by decide]
      simp only [Int.bmod]
      split <;> omega
theorem note_reg {m : Nat} {σ τ τ' : St} (hC : Cor m σ τ) {x1 x3 : Int32} (h : zf_Mo_note τ x1 x3 = some τ') : τ' 8 = τ 8 ∧ τ' 9 = τ 9 := by
  obtain ⟨-, -, -, -, ⟨⟨f1, f2, f3, f4, f5⟩, s, hs, hS⟩, -⟩ := hC
  have hS' : σ 17 0 = nI s := by rw [f5, hS]
  unfold zf_Mo_note at h
  rcases note_loop (fun a _ _ _ => some a) _ σ τ hs f1 f2 hS' hS x1 x3 300 0 (by omega) (by omega) with ⟨i, hi, e1, e2⟩ | ⟨e1, e2⟩
  · have := e2.symm.trans h
    rw [← Option.some.inj this]
    simp [px_at]
  · have h' := e2.symm.trans h
    by_cases h24 : s = 24
    · rw [hS, h24, if_pos (by decide)] at h'
      rw [← Option.some.inj h']
      exact ⟨rfl, rfl⟩
    · have a2 : ¬ nI s = 24 := fun e => h24 ((nI_eq (b := 24) (by omega) (by omega)).mp e)
      rw [hS, if_neg a2] at h'
      simp [px_at, hS, px_ck (show s < 24 by omega), px_cl (show s < 2 ^ 31 by omega), nI_1] at h'
      rw [← h']
      simp [px_at]
theorem nu_note {m : Nat} {σ τ : St} (hC : Cor m σ τ) {p : Nat} (hp : p < 32) (h29 : σ 29 0 = nI p) (h24 : τ 24 0 = nI p) {a : Nat} (ha : a ≤ 7) (e2 : τ 2 p = nI a) :
    ∃ σ' τ' : St, zf_Ma_noteUnknown_b50 σ = some σ' ∧ zf_Mo_note τ 3 (τ 8 a) = some τ' ∧ Cor m σ' τ' ∧ FrS σ σ' ∧ FrM τ τ' ∧ τ' 8 = τ 8 := by
  obtain ⟨d, a', b, hd, ha', hb, e1, e2', e3, i1, i2, i3, i4, i5⟩ := ins hC hp h29
  have : a' = a := by
    rw [e2] at e2'
    exact ((nI_eq (by omega) (by omega)).mp e2').symm
  subst this
  obtain ⟨ka, hka, ea, va, wa, ra⟩ := rg hC ha
  obtain ⟨σ', τ', g1, g2, g3, g4, g5⟩ := sim_note hC 3 (τ 8 a')
  refine ⟨σ', τ', ?_, g2, g3, g4, g5, (note_reg hC g2).1⟩
  unfold zf_Ma_noteUnknown_b50
  rw [if_pos rfl, i2, Option.bind_some, va, Option.bind_some, h29, ← h24, g1, Option.bind_some]
theorem sim_nu0 {m : Nat} {σ τ : St} (hC : Cor m σ τ) {p : Nat} (hp : p < 32) (h29 : σ 29 0 = nI p) (h24 : τ 24 0 = nI p) {a : Nat} (ha : a ≤ 7) (e2 : τ 2 p = nI a) :
    ∃ σ' τ' : St, zf_Ma_noteUnknown σ 0 = some σ' ∧ (if τ 9 a = 15 then some τ else zf_Mo_note τ 3 (τ 8 a)) = some τ' ∧ Cor m σ' τ' ∧ FrS σ σ' ∧ FrM τ τ' ∧ τ' 8 = τ 8 := by
  obtain ⟨d, a', b, hd, ha', hb, e1, e2', e3, i1, i2, i3, i4, i5⟩ := ins hC hp h29
  have : a' = a := by
    rw [e2] at e2'
    exact ((nI_eq (by omega) (by omega)).mp e2').symm
  subst this
  obtain ⟨ka, hka, ea, va, wa, ra⟩ := rg hC ha
  unfold zf_Ma_noteUnknown
  rw [i2, Option.bind_some, ra, Option.bind_some]
  by_cases h : τ 9 a' = 15
  · rw [if_pos h, if_pos h, if_neg (by decide), if_pos rfl]
    exact ⟨σ, τ, by unfold zf_Ma_noteUnknown_b46; rw [if_neg (by decide)], rfl, hC, FrS.refl σ, FrM.refl τ, rfl⟩
  · rw [if_neg h, if_neg h, if_pos rfl]
    exact nu_note hC hp h29 h24 ha e2
theorem sim_nu1 {m : Nat} {σ τ : St} (hC : Cor m σ τ) {p : Nat} (hp : p < 32) (h29 : σ 29 0 = nI p) (h24 : τ 24 0 = nI p) {a b : Nat} (ha : a ≤ 7) (hb : b ≤ 7) (e2 : τ 2 p = nI a) (e3 : τ 3 p = nI b) :
    ∃ σ' τ' : St, zf_Ma_noteUnknown σ 1 = some σ' ∧ (if τ 9 a = 15 ∧ τ 9 b = 15 then some τ else zf_Mo_note τ 3 (τ 8 a)) = some τ' ∧ Cor m σ' τ' ∧ FrS σ σ' ∧ FrM τ τ' ∧ τ' 8 = τ 8 := by
  obtain ⟨d, a', b', hd, ha', hb', e1, e2', e3', i1, i2, i3, i4, i5⟩ := ins hC hp h29
  have : a' = a := by
    rw [e2] at e2'
    exact ((nI_eq (by omega) (by omega)).mp e2').symm
  subst this
  have : b' = b := by
    rw [e3] at e3'
    exact ((nI_eq (by omega) (by omega)).mp e3').symm
  subst this
  obtain ⟨ka, hka, ea, va, wa, ra⟩ := rg hC ha
  obtain ⟨kb, hkb, eb, vb, wb, rb⟩ := rg hC hb
  unfold zf_Ma_noteUnknown
  rw [i2, Option.bind_some, ra, Option.bind_some]
  by_cases h : τ 9 a' = 15
  · rw [if_pos h, if_neg (show ¬ (1 : Int32) = 0 by decide), if_neg (show ¬ (1 : Int32) = 0 by decide), i3, Option.bind_some, rb, Option.bind_some]
    by_cases h' : τ 9 b' = 15
    · rw [if_pos h', if_neg (show ¬ (1 : Int32) = 0 by decide), if_pos ⟨h, h'⟩]
      exact ⟨σ, τ, by unfold zf_Ma_noteUnknown_b46; rw [if_neg (by decide)], rfl, hC, FrS.refl σ, FrM.refl τ, rfl⟩
    · rw [if_neg h', if_pos rfl, if_neg (fun hh => h' hh.2)]
      exact nu_note hC hp h29 h24 ha e2
  · rw [if_neg h, if_pos rfl, if_neg (fun hh => h hh.1)]
    exact nu_note hC hp h29 h24 ha e2
/-- an instruction was done alike; u.1 is the next -/
def OpOk (m : Nat) (σ τ σ' : St) (u : Int32 × St) : Prop := Cor m σ' u.2 ∧ (∀ v, (5 ≤ v ∧ v ≤ 12 ∨ 29 ≤ v) → v ≠ 30 → σ' v = σ v) ∧ FrM τ u.2 ∧ σ' 30 0 = u.1 ∧ ∃ q : Nat, q < 32 ∧ u.1 = nI q
theorem perf_1 {τ : St} {p o : Nat} (hp : p < 32) (ho : o = 13 ∨ o = 14) {a b : Nat} (ha : a ≤ 7) (hb : b ≤ 7) (e2 : τ 2 p = nI a) (e3 : τ 3 p = nI b) :
    zf_Mo_perform τ (nI o) (nI p) = (if τ 9 a = 15 ∧ τ 9 b = 15 then some τ else zf_Mo_note τ 3 (τ 8 a)).bind (fun u => zf_Mo_perform_b100 u (nI o) (nI p) (τ 8 a) ((nI p + 1) &&& 31)) := by
  have ha8 : a < 8 := by omega
  have hb8 : b < 8 := by omega
  unfold zf_Mo_perform zf_Mo_perform_b48 zf_Mo_perform_b64 zf_Mo_perform_b68 zf_Mo_perform_b89
  simp only [px_ck hp (show 32 < 2 ^ 31 by omega), px_cl (show p < 2 ^ 31 by omega), e2, e3, px_ck ha8 (show 8 < 2 ^ 31 by omega), px_cl (show a < 2 ^ 31 by omega), px_ck hb8 (show 8 < 2 ^ 31 by omega), px_cl (show b < 2 ^ 31 by omega), if_pos, if_neg (show ¬ (1 : Int32) = 0 by decide)]
  rcases ho with rfl | rfl
  · simp only [show (nI 13 : Int32) = 13 from rfl, if_pos]
    by_cases h : τ 9 a = 15 <;> by_cases h' : τ 9 b = 15 <;> simp [h, h']
  · simp only [show (nI 14 : Int32) = 14 from rfl, if_pos, if_neg (show ¬ (14 : Int32) = 13 by decide)]
    by_cases h : τ 9 a = 15 <;> by_cases h' : τ 9 b = 15 <;> simp [h, h']
theorem perf_0 {τ : St} {p o : Nat} (hp : p < 32) (ho : o = 16 ∨ o = 17 ∨ o = 18) {a : Nat} (ha : a ≤ 7) (e2 : τ 2 p = nI a) :
    zf_Mo_perform τ (nI o) (nI p) = (if τ 9 a = 15 then some τ else zf_Mo_note τ 3 (τ 8 a)).bind (fun u => zf_Mo_perform_b192 u (nI o) (nI p) (τ 8 a) ((nI p + 1) &&& 31)) := by
  have ha8 : a < 8 := by omega
  have n13 : ¬ nI o = 13 := fun e => by have := (nI_eq (b := 13) (by omega) (by omega)).mp e; omega
  have n14 : ¬ nI o = 14 := fun e => by have := (nI_eq (b := 14) (by omega) (by omega)).mp e; omega
  have n15 : ¬ nI o = 15 := fun e => by have := (nI_eq (b := 15) (by omega) (by omega)).mp e; omega
  have n15' : ¬ nI o ≤ 15 := nI_ge (a := 15) (by omega) (by omega)
  unfold zf_Mo_perform zf_Mo_perform_b48 zf_Mo_perform_b64 zf_Mo_perform_b68 zf_Mo_perform_b89 zf_Mo_perform_b100
  simp only [px_ck hp (show 32 < 2 ^ 31 by omega), px_cl (show p < 2 ^ 31 by omega), e2, px_ck ha8 (show 8 < 2 ^ 31 by omega), px_cl (show a < 2 ^ 31 by omega), if_pos, if_neg (show ¬ (1 : Int32) = 0 by decide), if_neg n13, if_neg n14, if_neg n15, if_neg n15']
  by_cases h : τ 9 a = 15 <;> simp [h]
theorem perf_n {τ : St} {p o : Nat} (hp : p < 32) (ho : o ≤ 12 ∨ o = 15) {a : Nat} (ha : a ≤ 7) (e2 : τ 2 p = nI a) :
    zf_Mo_perform τ (nI o) (nI p) = zf_Mo_perform_b100 τ (nI o) (nI p) (τ 8 a) ((nI p + 1) &&& 31) := by
  have ha8 : a < 8 := by omega
  have n13 : ¬ nI o = 13 := fun e => by have := (nI_eq (b := 13) (by omega) (by omega)).mp e; omega
  have n14 : ¬ nI o = 14 := fun e => by have := (nI_eq (b := 14) (by omega) (by omega)).mp e; omega
  have n15' : nI o ≤ 15 := nI_le (b := 15) (by omega) (by omega)
  unfold zf_Mo_perform zf_Mo_perform_b48 zf_Mo_perform_b64 zf_Mo_perform_b68 zf_Mo_perform_b89
  simp only [px_ck hp (show 32 < 2 ^ 31 by omega), px_cl (show p < 2 ^ 31 by omega), e2, px_ck ha8 (show 8 < 2 ^ 31 by omega), px_cl (show a < 2 ^ 31 by omega), if_neg n13, if_neg n14, if_pos n15', ite_self]
theorem and31 (x : Int32) : ∃ q : Nat, q < 32 ∧ x &&& 31 = nI q := pk_andE x 5 (by decide)
theorem sim_jump {m : Nat} {σ τ : St} (hC : Cor m σ τ) {p o : Nat} (hp : p < 32) (h29 : σ 29 0 = nI p) (h24 : τ 24 0 = nI p) (h30 : σ 30 0 = (nI p + 1) &&& 31) (h13 : 13 ≤ o) (h16 : o ≤ 16) :
    ∃ σ' u, zf_Ma_jump σ (nI o) = some σ' ∧ zf_Mo_perform τ (nI o) (nI p) = some u ∧ OpOk m σ τ σ' u := by
  obtain ⟨d, a, b, hd, ha, hb, e1, e2, e3, i1, i2, i3, i4, i5⟩ := ins hC hp h29
  obtain ⟨ka, hka, ea, va, wa, ra⟩ := rg hC ha
  obtain ⟨kb, hkb, eb, vb, wb, rb⟩ := rg hC hb
  have hb8 : b < 8 := by omega
  have fin : ∀ {σ1 τ1 : St} (x : Int32), Cor m σ1 τ1 → FrS σ σ1 → FrM τ τ1 → (∃ q : Nat, q < 32 ∧ x = nI q) → OpOk m σ τ (zz_put σ1 30 0 x) (x, τ1) := by
    intro σ1 τ1 x c f g hx
    refine ⟨?_, fun v hv h => by rw [px_at, if_neg h, f v hv], g, by simp [px_at, px_upd], hx⟩
    simpa [Cor, px_at] using c
  unfold zf_Ma_jump
  simp only [i2, i3, i4, va, vb, Option.bind_some, fm32]
  have ho : o = 13 ∨ o = 14 ∨ o = 15 ∨ o = 16 := by omega
  rcases ho with rfl | rfl | rfl | rfl
  · obtain ⟨σ1, τ1, g1, g2, g3, g4, g5, g6⟩ := sim_nu1 hC hp h29 h24 ha hb e2 e3
    have k3 : τ1 3 = τ 3 := g5 3 (by omega)
    have k4 : τ1 4 = τ 4 := g5 4 (by omega)
    have k8 : σ1 30 0 = (nI p + 1) &&& 31 := by rw [g4 30 (by omega), h30]
    rw [perf_1 hp (Or.inl rfl) ha hb e2 e3, g2, Option.bind_some, if_pos (show (nI 13 : Int32) = 13 from rfl), g1, Option.bind_some, zf_Mo_perform_b100, if_pos (show (nI 13 : Int32) = 13 from rfl), px_ck hp (by omega), px_cl (by omega), k3, e3, px_ck hb8 (by omega), px_cl (by omega), px_ck hp (by omega), k4, g6, k8]
    by_cases h : τ 8 a = τ 8 b
    · rw [if_pos h, if_pos h]
      exact ⟨_, _, rfl, rfl, fin _ g3 g4 g5 (and31 _)⟩
    · rw [if_neg h, if_neg h]
      exact ⟨_, _, rfl, rfl, fin _ g3 g4 g5 (and31 _)⟩
  · obtain ⟨σ1, τ1, g1, g2, g3, g4, g5, g6⟩ := sim_nu1 hC hp h29 h24 ha hb e2 e3
    have k3 : τ1 3 = τ 3 := g5 3 (by omega)
    have k4 : τ1 4 = τ 4 := g5 4 (by omega)
    have k8 : σ1 30 0 = (nI p + 1) &&& 31 := by rw [g4 30 (by omega), h30]
    rw [perf_1 hp (Or.inr rfl) ha hb e2 e3, g2, Option.bind_some, if_neg (show ¬ (nI 14 : Int32) = 13 by decide), if_pos (show (nI 14 : Int32) = 14 from rfl), g1, Option.bind_some, zf_Mo_perform_b100, if_neg (show ¬ (nI 14 : Int32) = 13 by decide), if_pos (show (nI 14 : Int32) = 14 from rfl), px_ck hp (by omega), px_cl (by omega), k3, e3, px_ck hb8 (by omega), px_cl (by omega), px_ck hp (by omega), k4, g6, k8]
    by_cases h : τ 8 b ≤ τ 8 a
    · rw [if_pos h, if_pos h]
      exact ⟨_, _, rfl, rfl, fin _ g3 g4 g5 (and31 _)⟩
    · rw [if_neg h, if_neg h]
      exact ⟨_, _, rfl, rfl, fin _ g3 g4 g5 (and31 _)⟩
  · obtain ⟨σ1, τ1, g1, g2, g3, g4, g5⟩ := sim_ans hC hp h29 ((nI p + 1) &&& 31) (k := 15) (by omega)
    have k4 : τ1 4 = τ 4 := g5 4 (by omega)
    have g1' : zf_Ma_answer σ ((nI p + 1) &&& 31) 15 = some σ1 := g1
    have g2' : zf_Mo_put τ (τ 1 p) ((nI p + 1) &&& 31) 15 = some τ1 := g2
    rw [perf_n hp (Or.inr rfl) ha e2, if_neg (show ¬ (nI 15 : Int32) = 13 by decide), if_neg (show ¬ (nI 15 : Int32) = 14 by decide), if_pos (show (nI 15 : Int32) = 15 from rfl), zf_Mo_perform_b100, if_neg (show ¬ (nI 15 : Int32) = 13 by decide), if_neg (show ¬ (nI 15 : Int32) = 14 by decide), if_pos (show (nI 15 : Int32) = 15 from rfl), px_ck hp (by omega), px_cl (by omega), h30, g1', g2', Option.bind_some, Option.bind_some, zf_Mo_perform_b192, if_pos (show (nI 15 : Int32) = 15 from rfl), px_ck hp (by omega), px_cl (by omega), k4]
    exact ⟨_, _, rfl, rfl, fin _ g3 g4 g5 (and31 _)⟩
  · obtain ⟨σ1, τ1, g1, g2, g3, g4, g5, g6⟩ := sim_nu0 hC hp h29 h24 ha e2
    rw [perf_0 hp (Or.inl rfl) ha e2, g2, Option.bind_some, if_neg (show ¬ (nI 16 : Int32) = 13 by decide), if_neg (show ¬ (nI 16 : Int32) = 14 by decide), if_neg (show ¬ (nI 16 : Int32) = 15 by decide), g1, Option.bind_some, zf_Mo_perform_b192, if_neg (show ¬ (nI 16 : Int32) = 15 by decide), if_pos (show (nI 16 : Int32) = 16 from rfl)]
    exact ⟨_, _, rfl, rfl, fin _ g3 g4 g5 (and31 _)⟩
/-- calculating, as the reference performs it -/
theorem sim_op8 {m : Nat} {σ τ : St} (hC : Cor m σ τ) {p o : Nat} (hp : p < 32) (h29 : σ 29 0 = nI p) (h30 : σ 30 0 = (nI p + 1) &&& 31) (h1 : 1 ≤ o) (h8 : o ≤ 8) :
    ∃ σ' u, zf_Ma_calculate σ (nI o) = some σ' ∧ zf_Mo_perform τ (nI o) (nI p) = some u ∧ OpOk m σ τ σ' u ∧ u.1 = (nI p + 1) &&& 31 := by
  obtain ⟨d, a, b, hd, ha, hb, e1, e2, e3, i1, i2, i3, i4, i5⟩ := ins hC hp h29
  obtain ⟨σ', τ', g1, g2, g3, g4, g5⟩ := sim_calc hC hp h29 h1 h8
  have nn : ∀ {k : Nat}, 8 < k → k < 2 ^ 31 → ¬ nI o = nI k := fun h h' e => by have := (nI_eq (by omega) h').mp e; omega
  refine ⟨σ', ((nI p + 1) &&& 31, τ'), g1, ?_, ⟨g3, fun v hv _ => g4 v hv, g5, by rw [g4 30 (by omega), h30], and31 _⟩, rfl⟩
  rw [perf_n hp (by omega) ha e2, zf_Mo_perform_b100, if_neg (show ¬ nI o = 13 from nn (k := 13) (by omega) (by omega)), if_neg (show ¬ nI o = 14 from nn (k := 14) (by omega) (by omega)), if_neg (show ¬ nI o = 15 from nn (k := 15) (by omega) (by omega)), zf_Mo_perform_b192, if_neg (show ¬ nI o = 15 from nn (k := 15) (by omega) (by omega)), if_neg (show ¬ nI o = 16 from nn (k := 16) (by omega) (by omega)), if_neg (show ¬ nI o = 17 from nn (k := 17) (by omega) (by omega)), if_neg (show ¬ nI o = 18 from nn (k := 18) (by omega) (by omega)), g2, Option.bind_some]
