/-! the calls that only look, poke, start -/
theorem sim_register (j : Nat) (σ τ : St) (x1 x2 : Int32) (hj : j < 512) (hR : Rel j σ τ) : ∃ (out : TO) (r : Int32 × St), zf_SW_register σ x1 x2 = some out ∧ (out.1 = 0 ∨ out.1 = 1) ∧ zf_Mo_register τ x1 x2 = some r ∧ zf_Mo_thrown r.2 = some (zh_n out.1) ∧ (out.1 = 0 → out.2.1 = r.1) ∧ Rel (j + 1) out.2.2 r.2 := by
  have e1 : zf_Mo_in x1 0 7 = some (chk x1 7) := chk_in0 x1 7
  have e2 : zf_Mo_in x2 0 1 = some (chk x2 1) := chk_in0 x2 1
  have e3 : zf_SW_isWithin x2 1 = some (chk x2 1) := chk_within x2 1
  obtain ⟨⟨h8, h9⟩, -⟩ := hR.2.2.1
  rcases chk01 x1 7 with h1 | h1
  · refine ⟨(1, 0, σ), (0, zz_put τ 27 0 1), ?_, Or.inr rfl, ?_, ?_, fun h => by simp at h, (hR.th 1).step⟩
    · simp [zf_SW_register, chk_re, h1]
    · simp [zf_Mo_register, e1, h1, px_bad0]
    · simp [zf_Mo_thrown, px_at, px_upd, zh_n]
  · rcases chk01 x2 1 with h2 | h2
    · refine ⟨(1, 0, σ), (0, zz_put τ 27 0 1), ?_, Or.inr rfl, ?_, ?_, fun h => by simp at h, (hR.th 1).step⟩
      · simp [zf_SW_register, chk_re, h1, e3, h2]
      · simp [zf_Mo_register, e1, h1, e2, h2, px_bad0]
      · simp [zf_Mo_thrown, px_at, px_upd, zh_n]
    · obtain ⟨k, hk, rfl⟩ := chk_in (by omega) h1
      have c1 : (nI k).toNatClampNeg = k := px_cl (by omega)
      by_cases hx : x2 = 0
      · subst hx
        refine ⟨(0, σ 3 k, σ), (τ 8 k, zz_put τ 27 0 0), ?_, Or.inl rfl, ?_, ?_, fun _ => by rw [h8], (hR.th 0).step⟩
        · simp [zf_SW_register, chk_re, h1, e3, h2, zf_Re_value, px_ck (show k < 8 by omega), c1]
        · simp [zf_Mo_register, e1, h1, e2, h2, px_bad1, px_ck (show k < 8 by omega), c1, px_at]
        · simp [zf_Mo_thrown, px_at, px_upd, zh_n]
      · refine ⟨(0, σ 4 k, σ), (τ 9 k, zz_put τ 27 0 0), ?_, Or.inl rfl, ?_, ?_, fun _ => by rw [h9], (hR.th 0).step⟩
        · simp [zf_SW_register, chk_re, h1, e3, h2, hx, zf_Re_known, px_ck (show k < 8 by omega), c1]
        · simp [zf_Mo_register, e1, h1, e2, h2, px_bad1, hx, px_ck (show k < 8 by omega), c1, px_at]
        · simp [zf_Mo_thrown, px_at, px_upd, zh_n]
/-- one byte's value, openness, knownness, as the class reads them -/
theorem px_or0 (x : Int32) : (0 : Int32) ||| (x <<< (((8 : Int32) * 0) &&& 31)) = x := by
  rw [show (((8 : Int32) * 0) &&& 31) = ((0 : Int32) &&& 31) from by decide, sb_shl0]
  simp
theorem px_v1 (σ : St) {k : Nat} (hk : k < 256) : zf_Me_value σ (nI k) 1 = some (σ 0 k) := by
  have c1 : (nI k).toNatClampNeg = k := px_cl (by omega)
  unfold zf_Me_value
  rw [show (300 : Nat) = 298 + 1 + 1 from rfl, zf_Me_value_L5, if_neg (by decide), show nI k + 0 = nI k by rw [show (0 : Int32) = nI 0 from rfl, nI_add]; rfl, px_ck hk (by omega), zf_Me_value_L5, if_pos (by decide), c1, px_or0]
theorem px_add0 (x : Int32) : x + 0 = x := by simp
theorem px_kn1 (σ : St) {k : Nat} (hk : k < 256) (h : σ 2 k = 0 ∨ σ 2 k = 1) : zf_Me_known σ (nI k) 1 = some (σ 2 k) := by
  have c1 : (nI k).toNatClampNeg = k := px_cl (by omega)
  unfold zf_Me_known
  rw [show (300 : Nat) = 298 + 1 + 1 from rfl, zf_Me_known_L5, if_neg (by decide), px_add0, px_ck hk (by omega), c1]
  rcases h with h | h
  · rw [if_pos h, zf_Me_known_L5, if_pos (by decide), h]
  · rw [if_neg (by rw [h]; decide), zf_Me_known_L5, if_pos (by decide), h]
    decide
theorem px_fc1 (σ : St) {k : Nat} (hk : k < 256) : zf_Me_firstClosed σ (nI k) 1 = some (if σ 1 k = 0 then nI k else -1) := by
  have c1 : (nI k).toNatClampNeg = k := px_cl (by omega)
  unfold zf_Me_firstClosed
  rw [show (300 : Nat) = 298 + 1 + 1 from rfl, zf_Me_firstClosed_L2, if_neg (by decide), px_add0, px_ck hk (by omega), c1]
  by_cases h : σ 1 k = 0
  · rw [if_pos h, if_pos h]
  · rw [if_neg h, if_neg h, zf_Me_firstClosed_L2, if_pos (by decide)]
theorem px_ne1 {k : Nat} (h : k < 2 ^ 31) : ¬ nI k = -1 := by
  intro e
  have := nI_pos h
  rw [e] at this
  exact this (by decide)
theorem sim_memory (j : Nat) (σ τ : St) (x1 x2 : Int32) (hj : j < 512) (hR : Rel j σ τ) : ∃ (out : TO) (r : Int32 × St), zf_SW_memory σ x1 x2 = some out ∧ (out.1 = 0 ∨ out.1 = 1) ∧ zf_Mo_memory τ x1 x2 = some r ∧ zf_Mo_thrown r.2 = some (zh_n out.1) ∧ (out.1 = 0 → out.2.1 = r.1) ∧ Rel (j + 1) out.2.2 r.2 := by
  have e1 : zf_Mo_in x1 0 255 = some (chk x1 255) := chk_in0 x1 255
  have e2 : zf_Mo_in x2 0 2 = some (chk x2 2) := chk_in0 x2 2
  have e3 : zf_SW_isWithin x2 2 = some (chk x2 2) := chk_within x2 2
  obtain ⟨⟨h5, h6, h7⟩, m1, m2⟩ := hR.2.1
  rcases chk01 x1 255 with h1 | h1
  · refine ⟨(1, 0, σ), (0, zz_put τ 27 0 1), ?_, Or.inr rfl, ?_, ?_, fun h => by simp at h, (hR.th 1).step⟩
    · simp [zf_SW_memory, chk_me, h1]
    · simp [zf_Mo_memory, e1, h1, px_bad0]
    · simp [zf_Mo_thrown, px_at, px_upd, zh_n]
  · rcases chk01 x2 2 with h2 | h2
    · refine ⟨(1, 0, σ), (0, zz_put τ 27 0 1), ?_, Or.inr rfl, ?_, ?_, fun h => by simp at h, (hR.th 1).step⟩
      · simp [zf_SW_memory, chk_me, h1, e3, h2]
      · simp [zf_Mo_memory, e1, h1, e2, h2, px_bad0]
      · simp [zf_Mo_thrown, px_at, px_upd, zh_n]
    · obtain ⟨k, hk, rfl⟩ := chk_in (by omega) h1
      have hk' : k < 256 := by omega
      have c1 : (nI k).toNatClampNeg = k := px_cl (by omega)
      by_cases hx : x2 = 0
      · subst hx
        refine ⟨(0, σ 0 k, σ), (τ 5 k, zz_put τ 27 0 0), ?_, Or.inl rfl, ?_, ?_, fun _ => by rw [h5], (hR.th 0).step⟩
        · simp [zf_SW_memory, chk_me, h1, e3, h2, px_v1 σ hk']
        · simp [zf_Mo_memory, e1, h1, e2, h2, px_bad1, px_ck hk', c1, px_at]
        · simp [zf_Mo_thrown, px_at, px_upd, zh_n]
      · by_cases hy : x2 = 1
        · refine ⟨(0, σ 1 k, σ), (τ 6 k, zz_put τ 27 0 0), ?_, Or.inl rfl, ?_, ?_, fun _ => by rw [h6], (hR.th 0).step⟩
          · subst hy
            rcases m1 k with h | h
            · have h' : σ 1 k = 0 := by rw [h6]; exact h
              simp [zf_SW_memory, chk_me, h1, e3, h2, px_fc1 σ hk', h', px_ne1 (show k < 2 ^ 31 by omega)]
            · have h' : σ 1 k = 1 := by rw [h6]; exact h
              simp [zf_SW_memory, chk_me, h1, e3, h2, px_fc1 σ hk', h']
          · subst hy
            simp [zf_Mo_memory, e1, h1, e2, h2, px_bad1, px_ck hk', c1, px_at]
          · simp [zf_Mo_thrown, px_at, px_upd, zh_n]
        · refine ⟨(0, σ 2 k, σ), (τ 7 k, zz_put τ 27 0 0), ?_, Or.inl rfl, ?_, ?_, fun _ => by rw [h7], (hR.th 0).step⟩
          · have h := m2 k
            rw [← h7] at h
            simp [zf_SW_memory, chk_me, h1, e3, h2, hx, hy, px_kn1 σ hk' h]
          · simp [zf_Mo_memory, e1, h1, e2, h2, px_bad1, hx, hy, px_ck hk', c1, px_at]
          · simp [zf_Mo_thrown, px_at, px_upd, zh_n]
theorem sim_finding (j : Nat) (σ τ : St) (x1 x2 : Int32) (hj : j < 512) (hR : Rel j σ τ) : ∃ (out : TO) (r : Int32 × St), zf_SW_finding σ x1 x2 = some out ∧ (out.1 = 0 ∨ out.1 = 1 ∨ out.1 = 4) ∧ zf_Mo_finding τ x1 x2 = some r ∧ zf_Mo_thrown r.2 = some (zh_n out.1) ∧ (out.1 = 0 → out.2.1 = r.1) ∧ Rel (j + 1) out.2.2 r.2 := by
  have e1 : zf_Mo_in x2 0 3 = some (chk x2 3) := chk_in0 x2 3
  have e3 : zf_SW_isWithin x2 3 = some (chk x2 3) := chk_within x2 3
  obtain ⟨⟨f1, f2, f3, f4, f5⟩, s, hs, hS⟩ := hR.2.2.2.2.1
  rcases chk01 x2 3 with h1 | h1
  · refine ⟨(1, 0, σ), (0, zz_put τ 27 0 1), ?_, Or.inr (Or.inl rfl), ?_, ?_, fun h => by simp at h, (hR.th 1).step⟩
    · simp [zf_SW_finding, e3, h1]
    · simp [zf_Mo_finding, e1, h1, px_bad0]
    · simp [zf_Mo_thrown, px_at, px_upd, zh_n]
  · have hp : zz_put τ 27 0 0 23 0 = nI s := by simp [px_at, hS]
    by_cases hin : ∃ k, k < s ∧ x1 = nI k
    · obtain ⟨k, hk, rfl⟩ := hin
      have c1 : (nI k).toNatClampNeg = k := px_cl (by omega)
      have e4 : zf_Fi_has σ (nI k) = some 1 := by
        unfold zf_Fi_has
        rw [if_neg (nI_pos (by omega)), f5, hS, if_neg (nI_ge hk (by omega)), px_k1]
      have e5 : zf_Mo_in (nI k) 0 (nI s - 1) = some 1 := by
        rw [show nI s - 1 = nI (s - 1) from by rw [show (1 : Int32) = nI 1 from rfl, pk_sub (by omega)], chk_in0, chk_nI (by omega) (by omega)]
      by_cases a0 : x2 = 0
      · subst a0
        refine ⟨(0, σ 13 k, σ), (τ 15 k, zz_put τ 27 0 0), ?_, Or.inl rfl, ?_, ?_, fun _ => by rw [f1], (hR.th 0).step⟩
        · simp [zf_SW_finding, e3, h1, e4, zf_Fi_kind, px_ck (show k < 24 by omega), c1]
        · simp [zf_Mo_finding, e1, h1, px_bad1, hp, e5, px_ck (show k < 24 by omega), c1, px_at]
        · simp [zf_Mo_thrown, px_at, px_upd, zh_n]
      · by_cases a1 : x2 = 1
        · subst a1
          refine ⟨(0, σ 14 k, σ), (τ 16 k, zz_put τ 27 0 0), ?_, Or.inl rfl, ?_, ?_, fun _ => by rw [f2], (hR.th 0).step⟩
          · simp [zf_SW_finding, e3, h1, e4, zf_Fi_instruction, px_ck (show k < 24 by omega), c1]
          · simp [zf_Mo_finding, e1, h1, px_bad1, hp, e5, px_ck (show k < 24 by omega), c1, px_at]
          · simp [zf_Mo_thrown, px_at, px_upd, zh_n]
        · by_cases a2 : x2 = 2
          · subst a2
            refine ⟨(0, σ 15 k, σ), (τ 17 k, zz_put τ 27 0 0), ?_, Or.inl rfl, ?_, ?_, fun _ => by rw [f3], (hR.th 0).step⟩
            · simp [zf_SW_finding, e3, h1, e4, zf_Fi_address, px_ck (show k < 24 by omega), c1]
            · simp [zf_Mo_finding, e1, h1, px_bad1, hp, e5, px_ck (show k < 24 by omega), c1, px_at]
            · simp [zf_Mo_thrown, px_at, px_upd, zh_n]
          · refine ⟨(0, σ 16 k, σ), (τ 18 k, zz_put τ 27 0 0), ?_, Or.inl rfl, ?_, ?_, fun _ => by rw [f4], (hR.th 0).step⟩
            · simp [zf_SW_finding, e3, h1, e4, a0, a1, a2, zf_Fi_times, px_ck (show k < 24 by omega), c1]
            · simp [zf_Mo_finding, e1, h1, px_bad1, hp, e5, a0, a1, a2, px_ck (show k < 24 by omega), c1, px_at]
            · simp [zf_Mo_thrown, px_at, px_upd, zh_n]
    · have e4 : zf_Fi_has σ x1 = some 0 := by
        unfold zf_Fi_has
        rcases pk_ix x1 (n := s) (by omega) with h | h | h
        · rw [if_pos h, px_k0]
        · rw [if_neg (fun h2 => by
            have a := Int32.le_iff_toInt_le.mp h
            have b := Int32.lt_iff_toInt_lt.mp h2
            rw [nI_toInt (by omega)] at a
            simp at b
            omega), f5, hS, if_pos h, px_k0]
        · exact absurd h hin
      have e5 : zf_Mo_in x1 0 (nI s - 1) = some 0 := by
        unfold zf_Mo_in
        rcases pk_ix x1 (n := s) (by omega) with h | h | h
        · rw [if_pos h, px_k0]
        · have a := Int32.le_iff_toInt_le.mp h
          rw [nI_toInt (by omega)] at a
          have hm : (nI s - 1).toInt = (s : Int) - 1 := pk_sub_toInt (a := s) (b := 1) (by omega) (by omega)
          rw [if_neg (fun h2 => by
            have b := Int32.lt_iff_toInt_lt.mp h2
            simp at b
            omega), if_pos (by rw [Int32.lt_iff_toInt_lt, hm]; omega), px_k0]
        · exact absurd h hin
      refine ⟨(4, 0, σ), (0, zz_put (zz_put τ 27 0 0) 27 0 2), ?_, Or.inr (Or.inr rfl), ?_, ?_, fun h => by simp at h, ((hR.th 0).th 2).step⟩
      · simp [zf_SW_finding, e3, h1, e4]
      · simp [zf_Mo_finding, e1, h1, px_bad1, hp, e5]
      · simp [zf_Mo_thrown, px_at, px_upd, zh_n]
