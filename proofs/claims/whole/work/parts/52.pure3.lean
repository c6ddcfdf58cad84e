/-! poke, start, count -/
theorem px_sh0 (x : Int32) : x >>> (((8 : Int32) * 0) &&& 31) = x := by
  rw [show (((8 : Int32) * 0) &&& 31) = ((0 : Int32) &&& 31) from by decide, sb_shr0]
theorem px_byte {v : Nat} (h : v ≤ 255) : nI v &&& 255 = nI v := by
  rw [pk_andN (by omega) 8 (by decide), Nat.mod_eq_of_lt (by omega)]
theorem px_put1 (σ : St) {k v : Nat} (hk : k < 256) (hv : v ≤ 255) : zf_Me_put σ (nI k) 1 (nI v) 15 = some (zz_put (zz_put σ 0 k (nI v)) 2 k 1) := by
  have c1 : (nI k).toNatClampNeg = k := px_cl (by omega)
  unfold zf_Me_put
  rw [show (300 : Nat) = 298 + 1 + 1 from rfl, zf_Me_put_L3, if_neg (by decide), px_add0, px_ck hk (by omega), if_pos (by decide), px_ck hk (by omega), zf_Me_put_L3, if_pos (by decide), c1, px_sh0, px_byte hv, px_n1]
theorem RM.put {a0 a1 a2 b0 b1 b2 : Nat → Int32} (h : RM a0 a1 a2 b0 b1 b2) (k : Nat) (x : Int32) {y : Int32} (hy : y = 0 ∨ y = 1) : RM (upd a0 k x) a1 (upd a2 k y) (upd b0 k x) b1 (upd b2 k y) := by
  obtain ⟨⟨rfl, rfl, rfl⟩, h1, h2⟩ := h
  refine ⟨⟨rfl, rfl, rfl⟩, h1, fun i => ?_⟩
  rw [px_upd]
  split
  · exact hy
  · exact h2 i
theorem sim_poke (j : Nat) (σ τ : St) (x1 x2 : Int32) (hj : j < 512) (hR : Rel j σ τ) : ∃ (out : TO) (τ' : St), zf_SW_poke σ x1 x2 = some out ∧ (out.1 = 0 ∨ out.1 = 1) ∧ zf_Mo_poke τ x1 x2 = some τ' ∧ zf_Mo_thrown τ' = some (zh_n out.1) ∧ Rel (j + 1) out.2.2 τ' := by
  have e1 : zf_Mo_in x1 0 255 = some (chk x1 255) := chk_in0 x1 255
  have e2 : zf_Mo_in x2 0 255 = some (chk x2 255) := chk_in0 x2 255
  have e3 : zf_SW_isWithin x2 255 = some (chk x2 255) := chk_within x2 255
  rcases chk01 x1 255 with h1 | h1
  · refine ⟨(1, 0, σ), zz_put τ 27 0 1, ?_, Or.inr rfl, ?_, ?_, (hR.th 1).step⟩
    · simp [zf_SW_poke, chk_me, h1]
    · simp [zf_Mo_poke, e1, h1, px_bad0]
    · simp [zf_Mo_thrown, px_at, px_upd, zh_n]
  · rcases chk01 x2 255 with h2 | h2
    · refine ⟨(1, 0, σ), zz_put τ 27 0 1, ?_, Or.inr rfl, ?_, ?_, (hR.th 1).step⟩
      · simp [zf_SW_poke, chk_me, h1, e3, h2]
      · simp [zf_Mo_poke, e1, h1, e2, h2, px_bad0]
      · simp [zf_Mo_thrown, px_at, px_upd, zh_n]
    · obtain ⟨k, hk, rfl⟩ := chk_in (by omega) h1
      obtain ⟨v, hv, rfl⟩ := chk_in (by omega) h2
      have hk' : k < 256 := by omega
      have c1 : (nI k).toNatClampNeg = k := px_cl (by omega)
      refine ⟨(0, 0, zz_put (zz_put σ 0 k (nI v)) 2 k 1), zz_put (zz_put (zz_put τ 27 0 0) 5 k (nI v)) 7 k 1, ?_, Or.inl rfl, ?_, ?_, ?_⟩
      · simp [zf_SW_poke, chk_me, h1, e3, h2, px_put1 σ hk' hv]
      · simp [zf_Mo_poke, e1, h1, e2, h2, px_bad1, px_ck hk', c1]
      · simp [zf_Mo_thrown, px_at, px_upd, zh_n]
      · obtain ⟨r1, r2, r3, r4, r5⟩ := hR.step
        have r2' := r2.put k (nI v) (y := 1) (Or.inr rfl)
        simp [Rel, RelM, px_at, r1, r2', r3, r4, r5]
/-- the class clears its registers -/
theorem cl_loop (kx : St → Option St) : ∀ (n k : Nat) (σ : St), k ≤ 8 → 8 - k < n → ∃ f g : Nat → Int32, zf_Re_clear_L2 kx n σ (nI k) = kx (fun v => if v = 3 then f else if v = 4 then g else σ v) ∧
    (∀ i, f i = if k ≤ i ∧ i < 8 then 0 else σ 3 i) ∧ ∀ i, g i = if k ≤ i ∧ i < 8 then 15 else σ 4 i := by
  intro n
  induction n with
  | zero => intro k σ h1 h2; omega
  | succ n ih =>
    intro k σ hk hn
    have c1 : (nI k).toNatClampNeg = k := px_cl (by omega)
    rw [zf_Re_clear_L2]
    by_cases h8 : k = 8
    · subst h8
      refine ⟨σ 3, σ 4, ?_, fun i => ?_, fun i => ?_⟩
      · rw [if_pos (by decide)]
        congr 1
        funext v
        split
        · rename_i h; rw [h]
        · split
          · rename_i h; rw [h]
          · rfl
      · rw [if_neg (by omega)]
      · rw [if_neg (by omega)]
    · rw [show (8 : Int32) = nI 8 from rfl, if_neg (nI_ge (by omega) (by omega)), px_ck (by omega) (by omega), px_ck (by omega) (by omega), nI_1, c1]
      obtain ⟨f, g, e, hf, hg⟩ := ih (k + 1) (zz_put (zz_put σ 3 k 0) 4 k 15) (by omega) (by omega)
      refine ⟨f, g, ?_, fun i => ?_, fun i => ?_⟩
      · rw [e]
        congr 1
        funext v
        by_cases h3 : v = 3
        · simp [h3]
        · by_cases h4 : v = 4
          · simp [h4]
          · simp [h3, h4, px_at]
      · rw [hf i]
        by_cases hi : k + 1 ≤ i ∧ i < 8
        · rw [if_pos hi, if_pos (by omega)]
        · rw [if_neg hi]
          by_cases hik : i = k
          · subst hik; rw [if_pos (by omega)]; simp [px_at, px_upd]
          · rw [if_neg (by omega)]; simp [px_at, px_upd, hik]
      · rw [hg i]
        by_cases hi : k + 1 ≤ i ∧ i < 8
        · rw [if_pos hi, if_pos (by omega)]
        · rw [if_neg hi]
          by_cases hik : i = k
          · subst hik; rw [if_pos (by omega)]; simp [px_at, px_upd]
          · rw [if_neg (by omega)]; simp [px_at, px_upd, hik]

theorem ms_loop (kx : St → Option St) : ∀ (n k : Nat) (σ : St), k ≤ 8 → 8 - k < n → ∃ f g : Nat → Int32, zf_Mo_start_L27 kx n σ (nI k) = kx (fun v => if v = 8 then f else if v = 9 then g else σ v) ∧
    (∀ i, f i = if k ≤ i ∧ i < 8 ∧ i ≠ 0 then 0 else σ 8 i) ∧ ∀ i, g i = if k ≤ i ∧ i < 8 ∧ i ≠ 0 then 15 else σ 9 i := by
  intro n
  induction n with
  | zero => intro k σ h1 h2; omega
  | succ n ih =>
    intro k σ hk hn
    have c1 : (nI k).toNatClampNeg = k := px_cl (by omega)
    rw [zf_Mo_start_L27]
    by_cases h8 : k = 8
    · subst h8
      refine ⟨σ 8, σ 9, ?_, fun i => ?_, fun i => ?_⟩
      · rw [if_pos (by decide)]
        congr 1
        funext v
        split
        · rename_i h; rw [h]
        · split
          · rename_i h; rw [h]
          · rfl
      · rw [if_neg (by omega)]
      · rw [if_neg (by omega)]
    · rw [show (8 : Int32) = nI 8 from rfl, if_neg (nI_ge (by omega) (by omega))]
      by_cases h0 : k = 0
      · subst h0
        have e0 : zf_Mo_put σ (nI 0) 0 15 = some σ := by unfold zf_Mo_put; rw [if_pos (by decide)]
        rw [e0, Option.bind_some, nI_1]
        obtain ⟨f, g, e, hf, hg⟩ := ih (0 + 1) σ (by omega) (by omega)
        refine ⟨f, g, e, fun i => ?_, fun i => ?_⟩
        · rw [hf i]
          by_cases hi : 0 + 1 ≤ i ∧ i < 8 ∧ i ≠ 0
          · rw [if_pos hi, if_pos (by omega)]
          · rw [if_neg hi, if_neg (by omega)]
        · rw [hg i]
          by_cases hi : 0 + 1 ≤ i ∧ i < 8 ∧ i ≠ 0
          · rw [if_pos hi, if_pos (by omega)]
          · rw [if_neg hi, if_neg (by omega)]
      · have e0 : zf_Mo_put σ (nI k) 0 15 = some (zz_put (zz_put σ 8 k 0) 9 k 15) := by
          unfold zf_Mo_put
          rw [if_neg (nI_ne0 (by omega) (by omega)), px_ck (by omega) (by omega), px_ck (by omega) (by omega), c1]
        rw [e0, Option.bind_some, nI_1]
        obtain ⟨f, g, e, hf, hg⟩ := ih (k + 1) (zz_put (zz_put σ 8 k 0) 9 k 15) (by omega) (by omega)
        refine ⟨f, g, ?_, fun i => ?_, fun i => ?_⟩
        · rw [e]
          congr 1
          funext v
          by_cases h3 : v = 8
          · simp [h3]
          · by_cases h4 : v = 9
            · simp [h4]
            · simp [h3, h4, px_at]
        · rw [hf i]
          by_cases hi : k + 1 ≤ i ∧ i < 8 ∧ i ≠ 0
          · rw [if_pos hi, if_pos (by omega)]
          · rw [if_neg hi]
            by_cases hik : i = k
            · subst hik; rw [if_pos (by omega)]; simp [px_at, px_upd]
            · rw [if_neg (by omega)]; simp [px_at, px_upd, hik]
        · rw [hg i]
          by_cases hi : k + 1 ≤ i ∧ i < 8 ∧ i ≠ 0
          · rw [if_pos hi, if_pos (by omega)]
          · rw [if_neg hi]
            by_cases hik : i = k
            · subst hik; rw [if_pos (by omega)]; simp [px_at, px_upd]
            · rw [if_neg (by omega)]; simp [px_at, px_upd, hik]
theorem sim_start (j : Nat) (σ τ : St) (x1 : Int32) (hj : j < 512) (hR : Rel j σ τ) : ∃ (out : TO) (τ' : St), zf_SW_start σ x1 = some out ∧ (out.1 = 0 ∨ out.1 = 1) ∧ zf_Mo_start τ x1 = some τ' ∧ zf_Mo_thrown τ' = some (zh_n out.1) ∧ Rel (j + 1) out.2.2 τ' := by
  have e1 : zf_Mo_in x1 0 31 = some (chk x1 31) := chk_in0 x1 31
  rcases chk01 x1 31 with h1 | h1
  · refine ⟨(1, 0, σ), zz_put τ 27 0 1, ?_, Or.inr rfl, ?_, ?_, (hR.th 1).step⟩
    · simp [zf_SW_start, chk_pr, h1]
    · simp [zf_Mo_start, e1, h1, px_bad0]
    · simp [zf_Mo_thrown, px_at, px_upd, zh_n]
  · obtain ⟨k, hk, rfl⟩ := chk_in (by omega) h1
    obtain ⟨f, g, e2, hf, hg⟩ := cl_loop (fun s2 => some s2) 300 0 (zz_put (zz_put (zz_put σ 29 0 (nI k)) 31 0 0) 32 0 0) (by omega) (by omega)
    obtain ⟨f', g', e3, hf', hg'⟩ := ms_loop (fun s6 => some s6) 300 0 (zz_put (zz_put (zz_put τ 27 0 0) 24 0 (nI k)) 28 0 0) (by omega) (by omega)
    obtain ⟨r1, r2, ⟨⟨q1, q2⟩, q3, q4, q5⟩, r4, r5, r6, ⟨⟨x1, x2, x3, x4⟩, x5, x6, x7⟩⟩ := hR
    have ef : f = f' := by
      funext i
      rw [hf, hf']
      by_cases hi : i = 0
      · subst hi; simp [px_at, q4]
      · by_cases h8 : i < 8
        · rw [if_pos (by omega), if_pos (by omega)]
        · rw [if_neg (by omega), if_neg (by omega)]; simp [px_at, q1]
    have eg : g = g' := by
      funext i
      rw [hg, hg']
      by_cases hi : i = 0
      · subst hi; simp [px_at, q5]
      · by_cases h8 : i < 8
        · rw [if_pos (by omega), if_pos (by omega)]
        · rw [if_neg (by omega), if_neg (by omega)]; simp [px_at, q2]
    subst ef; subst eg
    refine ⟨(0, 0, (fun v => if v = 3 then f else if v = 4 then g else (zz_put (zz_put (zz_put σ 29 0 (nI k)) 31 0 0) 32 0 0) v)), (fun v => if v = 8 then f else if v = 9 then g else (zz_put (zz_put (zz_put τ 27 0 0) 24 0 (nI k)) 28 0 0) v), ?_, Or.inl rfl, ?_, ?_, ?_⟩
    · have e2' : zf_Re_clear (zz_put (zz_put (zz_put σ 29 0 (nI k)) 31 0 0) 32 0 0) = some (fun v => if v = 3 then f else if v = 4 then g else (zz_put (zz_put (zz_put σ 29 0 (nI k)) 31 0 0) 32 0 0) v) := e2
      simp [zf_SW_start, chk_pr, h1, zf_Ma_beginAt, px_k0, e2']
    · have e3' : zf_Mo_start_L27 (fun s6 => some s6) 300 (zz_put (zz_put (zz_put τ 27 0 0) 24 0 (nI k)) 28 0 0) 0 = some (fun v => if v = 8 then f else if v = 9 then g else (zz_put (zz_put (zz_put τ 27 0 0) 24 0 (nI k)) 28 0 0) v) := e3
      simp [zf_Mo_start, e1, h1, px_bad1, px_k0, e3']
    · simp [zf_Mo_thrown, px_at, px_upd, zh_n]
    · have r4' := r4.step (show 200 * j ≤ 200 * (j + 1) by omega)
      have hRR : RR f g f g := by
        refine ⟨⟨rfl, rfl⟩, fun i => ?_, ?_, ?_⟩
        · rw [hg i]
          split
          · exact ⟨15, by omega, rfl⟩
          · obtain ⟨z, hz, e⟩ := q3 i
            exact ⟨z, hz, by simp [px_at, q2, e]⟩
        · rw [hf]; simp
        · rw [hg]; simp
      refine ⟨?_, ?_, ?_, ?_, ?_, ?_, ?_⟩
      · simpa [px_at] using r1
      · simpa [px_at] using r2
      · simpa [px_at] using hRR
      · simpa [px_at] using r4'
      · simpa [px_at] using r5
      · simpa [px_at] using r6
      · refine ⟨⟨?_, ?_, ?_, ?_⟩, ⟨k, by omega, ?_⟩, Or.inl ?_, Or.inl ?_⟩
        · simp [px_at, px_upd]
        · simp [px_at, x2]
        · simp [px_at, x3]
        · simp [px_at, px_upd]
        · simp [px_at, px_upd]
        · simp [px_at, px_upd]
        · simp [px_at, px_upd]
