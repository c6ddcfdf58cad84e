/-! run -/
theorem px_addsub (a b : Int32) : a + b - a = b := by
  apply Int32.toBitVec_inj.mp
  rw [Int32.toBitVec_sub, Int32.toBitVec_add]
  apply BitVec.eq_of_toNat_eq
  simp only [BitVec.toNat_sub, BitVec.toNat_add]
  have h1 := a.toBitVec.isLt
  have h2 := b.toBitVec.isLt
  omega
theorem l14_out (kx : St → Int32 → Option (Int32 × St)) (f : Nat) (σ : St) (x1 x2 x3 : Int32) (h : σ 31 0 = 1) : zf_Ma_perform_L14 kx (f + 1) σ x1 x2 x3 = kx σ x2 := by
  rw [zf_Ma_perform_L14, if_neg (show ¬ σ 31 0 = 0 by rw [h]; decide), ite_self]
theorem run_loop {N : Nat} (hN : N ≤ 200) {m : Nat} (hm : m < 2 ^ 29) (before : Int32) :
    ∀ (f k : Nat) (σ τ : St) (x3 : Int32), k ≤ N → N - k < f → RelM (m + k) σ τ → PE (σ 12 0) (τ 24 0) x3 (τ 0) → σ 32 0 = 0 → σ 33 0 = before + nI k →
    ∃ us um : Int32 × St, zf_Ma_perform_L14 (fun s6 s6_2 => some (((s6 33 0) - s6_2), s6)) f σ (nI N) before (nI k) = some us ∧ zf_Mo_run_L35 (fun s107 s107_2 => some (s107_2, s107)) f τ (nI N) (nI k) x3 = some um ∧ RelM (m + N) us.2 um.2 ∧
      ((us.2 32 0 = 0 ∧ us.1 = um.1 ∧ um.2 27 0 = τ 27 0) ∨ (us.2 32 0 = 1 ∧ um.2 27 0 = 3)) := by
  intro f
  induction f with
  | zero => intro k σ τ x3 h1 h2; omega
  | succ f ih =>
    intro k σ τ x3 hk hf hR hE h32 h33
    have hdone : σ 33 0 - before = nI k := by rw [h33, px_addsub]
    obtain ⟨⟨xa, xd, xt, xs⟩, ⟨p, hp, h24⟩, x6, x7⟩ := (RelM_iff.mp hR).2
    by_cases hkN : k = N
    · subst hkN
      refine ⟨(nI k, σ), (nI k, τ), ?_, ?_, hR, Or.inl ⟨h32, rfl, rfl⟩⟩
      · rw [zf_Ma_perform_L14, if_pos (nI_le (Nat.le_refl _) (by omega)), hdone]
      · rw [run_eq, if_pos (nI_le (Nat.le_refl _) (by omega))]
    · have hlt : ¬ nI N ≤ nI k := nI_ge (by omega) (by omega)
      rcases x6 with hst | hst
      · have h29 : σ 29 0 = nI p := by rw [xa, h24]
        obtain ⟨σ1, τ1, e, g1, g2, hpe, he, g3, g4, g5, hR1, g6, g7⟩ := sim_reach hR hp h24 hE hst (fun s107 s107_2 => some (s107_2, s107)) f hlt
        rw [g2, zf_Ma_perform_L14, if_neg hlt, xs, if_pos hst, nI_1 k]
        have h29' : σ1 29 0 = nI p := by rw [g6 29 (by omega), h29]
        have h24' : τ1 24 0 = nI p := by rw [g7 24 (by omega) (by omega), h24]
        have h28' : τ1 28 0 = 0 := by rw [g7 28 (by omega) (by omega), hst]
        have h27' : τ1 27 0 = τ 27 0 := by rw [g7 27 (by omega) (by omega)]
        have h32' : σ1 32 0 = 0 := by rw [g6 32 (by omega), h32]
        have h33' : σ1 33 0 = before + nI k := by rw [g6 33 (by omega), h33]
        have hCR := RelM_iff.mp hR1
        have hC1 := hCR.1
        have hC2 : Cor (m + k) (zz_put σ1 30 0 ((nI p + 1) &&& 31)) τ1 := by simpa [Cor, px_at] using hC1
        have h29'' : (zz_put σ1 30 0 ((nI p + 1) &&& 31)) 29 0 = nI p := by simp [px_at, h29']
        have h30'' : (zz_put σ1 30 0 ((nI p + 1) &&& 31)) 30 0 = (nI p + 1) &&& 31 := by simp [px_at, px_upd]
        obtain ⟨d, a, b, hd, ha, hb, e1, e2, e3, i1, i2, i3, i4, i5⟩ := ins hC2 hp h29''
        obtain ⟨o, ho, h0⟩ := (hC1.1.2 p hp).1
        have hstep : zf_Ma_step σ = (if nI o = 0 then zz_kz (1 : Int32) (zf_Ma_step_b117 (zz_put (zz_put (zz_put σ1 30 0 ((nI p + 1) &&& 31)) 31 0 (1 : Int32)) 30 0 (nI p))) else
            (if (8 : Int32) < nI o then if (12 : Int32) < nI o then if (16 : Int32) < nI o then if nI o = (17 : Int32) then (zf_Ma_ask (zz_put σ1 30 0 ((nI p + 1) &&& 31))).bind (fun u7 => zf_Ma_step_b117 u7) else (zf_Ma_give (zz_put σ1 30 0 ((nI p + 1) &&& 31))).bind (fun u4 => zf_Ma_step_b117 u4) else (zf_Ma_jump (zz_put σ1 30 0 ((nI p + 1) &&& 31)) (nI o)).bind (fun u10 => zf_Ma_step_b117 u10) else (zf_Ma_useMemory (zz_put σ1 30 0 ((nI p + 1) &&& 31)) (nI o)).bind (fun u13 => zf_Ma_step_b117 u13) else (zf_Ma_calculate (zz_put σ1 30 0 ((nI p + 1) &&& 31)) (nI o)).bind (fun u16 => zf_Ma_step_b117 u16))) := by
          unfold zf_Ma_step
          rw [h29, g1, Option.bind_some, h29', fm32, Option.bind_some, i5, Option.bind_some, h0]
          have : (zz_put (zz_put σ1 30 0 ((nI p + 1) &&& 31)) 31 0 (1 : Int32)) 29 0 = nI p := by simp [px_at, h29']
          rw [this]
        rw [hstep, h0]
        unfold macc
        rw [in912 o (by omega), Option.bind_some]
        have cont : ∀ {m' : Nat} {σ3 : St} {u : Int32 × St}, m' ≤ m + (k + 1) → OpOk m' (zz_put σ1 30 0 ((nI p + 1) &&& 31)) (zz_put τ1 25 0 (τ1 25 0 + 1)) σ3 u → (¬ (13 ≤ o ∧ o ≤ 16) → u.1 = (nI p + 1) &&& 31) →
            ∃ us um : Int32 × St, (zf_Ma_step_b117 σ3).bind (fun u2 => zf_Ma_perform_L14 (fun s6 s6_2 => some (((s6 33 0) - s6_2), s6)) f u2 (nI N) before (nI (k + 1))) = some us ∧ zf_Mo_run_L35 (fun s107 s107_2 => some (s107_2, s107)) f (zz_put u.2 24 0 u.1) (nI N) (nI (k + 1)) (if nI p = nI e then -1 else nI e) = some um ∧ RelM (m + N) us.2 um.2 ∧
              ((us.2 32 0 = 0 ∧ us.1 = um.1 ∧ um.2 27 0 = τ 27 0) ∨ (us.2 32 0 = 1 ∧ um.2 27 0 = 3)) := by
          intro m' σ3 u hm' hO hu
          obtain ⟨σ4, b1, b2, b3, b4, b5, b6, b7, b8⟩ := fin_step hR1 h32' h28' hO
          rw [b1, Option.bind_some]
          have := ih (k + 1) σ4 (zz_put u.2 24 0 u.1) (if nI p = nI e then -1 else nI e) (by omega) (by omega) (b2.mono hm') (pe_next hp hpe he g3 g4 h0 ho hu b5 b7 b8) b3 (by rw [b4, h33', ← nI_1, Int32.add_assoc])
          rw [b6, h27'] at this
          exact this
        by_cases ho0 : o = 0
        · subst ho0
          have hend : e = p := g5 (by left; rw [h0]; rfl)
          subst hend
          rw [if_pos (show (nI 0 : Int32) = 0 from rfl), if_neg (show ¬ (9 ≤ 0 ∧ 0 ≤ 12) by omega), if_pos rfl, mrest_eq, if_pos rfl]
          unfold mtail
          rw [if_pos (show (nI 0 : Int32) = 0 from rfl), px_k1, px_k1, nI_1 k]
          obtain ⟨⟨xa1, xd1, xt1, xs1⟩, x51, x61, x71⟩ := hCR.2
          have hb : zf_Ma_step_b117 (zz_put (zz_put (zz_put σ1 30 0 ((nI e + 1) &&& 31)) 31 0 (1 : Int32)) 30 0 (nI e)) = some (zz_put (zz_put (zz_put (zz_put (zz_put σ1 30 0 ((nI e + 1) &&& 31)) 31 0 (1 : Int32)) 30 0 (nI e)) 29 0 (nI e)) 33 0 (σ1 33 0 + 1)) := by
            unfold zf_Ma_step_b117
            rw [if_pos (by simp [px_at, h32'])]
            simp [px_at, px_upd]
          rw [hb, Option.bind_some]
          have := ih (k + 1) (zz_put (zz_put (zz_put (zz_put (zz_put σ1 30 0 ((nI e + 1) &&& 31)) 31 0 (1 : Int32)) 30 0 (nI e)) 29 0 (nI e)) 33 0 (σ1 33 0 + 1)) (zz_put (zz_put τ1 25 0 (τ1 25 0 + 1)) 28 0 1) (-1) (by omega) (by omega) (by
            rw [RelM_iff]
            refine ⟨?_, ⟨?_, ?_, ?_, ?_⟩, ⟨e, he, ?_⟩, ?_, ?_⟩
            · have := hC1.mono (show m + k ≤ m + (k + 1) by omega)
              simpa [Cor, px_at] using this
            · simp [px_at, px_upd, h24']
            · simp [px_at, px_upd, xd1]
            · simp [px_at, xt1]
            · simp [px_at, px_upd]
            · simp [px_at, h24']
            · right; simp [px_at, px_upd]
            · left; simp [px_at, h32']) (Or.inl ⟨by
              rw [Nat.sub_self] at g3
              simp [px_at, g3]
              rfl, rfl⟩) (by simp [px_at, h32']) (by
              simp [px_at, px_upd, h33']
              rw [← nI_1, Int32.add_assoc])
          rw [show (zz_put (zz_put τ1 25 0 (τ1 25 0 + 1)) 28 0 1) 27 0 = τ 27 0 by simp [px_at, h27']] at this
          exact this
        · rw [if_neg (show ¬ nI o = 0 from nI_ne0 (by omega) (by omega))]
          by_cases hmem : 9 ≤ o ∧ o ≤ 12
          · rw [if_pos hmem, if_neg (show ¬ (1 : Int32) = 0 by decide), if_pos (show (8 : Int32) < nI o from nI_lt (a := 8) (by omega) (by omega)), if_neg (show ¬ (12 : Int32) < nI o from nI_nlt (a := 12) (by omega) (by omega))]
            obtain ⟨σ3, u, s1, s2, s3⟩ := sim_mem hC2 hp h29'' h24' hmem.1 hmem.2
            rw [s1, s2, Option.bind_some, Option.bind_some]
            rcases s3 with ⟨u1, c1, c2, c3⟩ | ⟨u1, σ', rfl, c1, c2, c3⟩
            · rw [u1, if_neg (show ¬ (1 : Int32) = 0 by decide), mrest_eq]
              unfold mtail
              rw [if_neg (show ¬ nI o = 0 from nI_ne0 (by omega) (by omega)), in912 o (by omega), Option.bind_some, if_pos hmem, if_neg (show ¬ (1 : Int32) = 0 by decide), nI_1 k]
              exact cont (m' := m + k) (u := ((nI p + 1) &&& 31, zz_put u.2 25 0 (u.2 25 0 + 1))) (by omega) ⟨by simpa [Cor, px_at] using c1, fun v hv _ => c2 v hv, fun v hv => by
                by_cases hv25 : v = 25
                · subst hv25
                  simp [px_at, c3 25 (by omega)]
                · simp [px_at, hv25, c3 v hv], by rw [c2 30 (by omega), h30''], and31 _⟩ (fun _ => rfl)
            · rw [u1, if_pos rfl, px_k1]
              have hb : zf_Ma_step_b117 (zz_put (zz_put σ' 32 0 1) 31 0 1) = some (zz_put (zz_put σ' 32 0 1) 31 0 1) := by
                unfold zf_Ma_step_b117
                rw [if_neg (by simp [px_at, px_upd])]
              obtain ⟨f', rfl⟩ : ∃ f', f = f' + 1 := ⟨f - 1, by omega⟩
              rw [hb, Option.bind_some, l14_out _ _ _ _ _ _ (by simp [px_at, px_upd])]
              refine ⟨_, _, rfl, rfl, ?_, Or.inr ⟨by simp [px_at, px_upd], by simp [px_at, px_upd]⟩⟩
              obtain ⟨⟨xa1, xd1, xt1, xs1⟩, x51, x61, x71⟩ := hCR.2
              rw [RelM_iff]
              refine ⟨?_, ⟨?_, ?_, ?_, ?_⟩, ⟨p, hp, ?_⟩, ?_, ?_⟩
              · have := c1.mono (show m + k ≤ m + N by omega)
                simpa [Cor, px_at] using this
              · simp [px_at, c2 29 (by omega), c3 24 (by omega), h29', h24']
              · simp [px_at, c2 33 (by omega), c3 25 (by omega), xd1]
              · simp [px_at, c2 11 (by omega), c3 26 (by omega), xt1]
              · simp [px_at, px_upd]
              · simp [px_at, c3 24 (by omega), h24']
              · right; simp [px_at, px_upd]
              · right; simp [px_at, px_upd]
          · rw [if_neg hmem, if_pos rfl, mrest_eq]
            unfold mtail
            rw [if_neg (show ¬ nI o = 0 from nI_ne0 (by omega) (by omega)), in912 o (by omega), Option.bind_some, if_neg hmem, if_pos rfl, nI_1 k]
            obtain ⟨σ3, u, s1, s2, s3, s4⟩ := sim_op (m := m + k) (by omega) (show Cor (m + k) (zz_put σ1 30 0 ((nI p + 1) &&& 31)) (zz_put τ1 25 0 (τ1 25 0 + 1)) by simpa [Cor, px_at] using hC1) hp h29'' (by simp [px_at, h24']) h30'' (o := o) (by omega)
            rw [s1, s2, Option.bind_some]
            exact cont (by omega) s3 s4
      · refine ⟨(nI k, σ), (nI k, τ), ?_, ?_, hR.mono (by omega), Or.inl ⟨h32, rfl, rfl⟩⟩
        · rw [l14_out _ _ _ _ _ _ (by rw [xs, hst]), hdone]
        · rw [run_eq, if_neg hlt, if_neg (show ¬ τ 28 0 = 0 by rw [hst]; decide)]
theorem in1 (x : Int32) {n : Nat} (hn : n < 2 ^ 31) : (∃ z : Nat, 1 ≤ z ∧ z ≤ n ∧ x = nI z ∧ zf_Mo_in x 1 (nI n) = some 1 ∧ ¬ x < 1 ∧ x ≤ nI n) ∨ (zf_Mo_in x 1 (nI n) = some 0 ∧ (x < 1 ∨ (¬ x < 1 ∧ ¬ x ≤ nI n))) := by
  unfold zf_Mo_in
  rw [px_k0, px_k1]
  by_cases h1 : x < 1
  · exact Or.inr ⟨by rw [if_pos h1], Or.inl h1⟩
  · by_cases h2 : nI n < x
    · exact Or.inr ⟨by rw [if_neg h1, if_pos h2], Or.inr ⟨h1, Int32.not_le.mpr h2⟩⟩
    · left
      have h0 : ¬ x < 0 := fun h => h1 (by
        rw [Int32.lt_iff_toInt_lt] at *
        simp at *
        omega)
      obtain ⟨z, hz, rfl⟩ := nI_of2 (M := nI n) (nI_toInt hn) h0 (Int32.not_lt.mp h2)
      refine ⟨z, ?_, hz, rfl, by rw [if_neg h1, if_neg h2], h1, Int32.not_lt.mp h2⟩
      rcases Nat.eq_zero_or_pos z with rfl | h
      · exact absurd (by decide) h1
      · exact h
theorem sim_run (j : Nat) (σ τ : St) (x1 : Int32) (hj : j < 512) (hR : Rel j σ τ) : ∃ (out : TO) (r : Int32 × St), zf_SW_run σ x1 = some out ∧ (out.1 = 0 ∨ out.1 = 1 ∨ out.1 = 2 ∨ out.1 = 3) ∧ zf_Mo_run τ x1 = some r ∧ zf_Mo_thrown r.2 = some (zh_n out.1) ∧ (out.1 = 0 → out.2.1 = r.1) ∧ Rel (j + 1) out.2.2 r.2 := by
  unfold zf_SW_run zf_Mo_run
  rcases in1 x1 (n := 200) (by omega) with ⟨N, hN1, hN, rfl, h1, h2, h3⟩ | ⟨h1, h2⟩
  · have h1' : zf_Mo_in (nI N) 1 200 = some 1 := h1
    have h3' : nI N ≤ 200 := h3
    have hR0 := hR.th 0
    obtain ⟨⟨xa, xd, xt, xs⟩, ⟨p, hp, h24⟩, x6, x7⟩ := (RelM_iff.mp hR0).2
    rw [if_neg h2, if_pos h3', h1', Option.bind_some, px_bad1, Option.bind_some, if_pos rfl]
    dsimp only
    have hst' : zf_Ma_isStopped σ = some (zz_put τ 27 0 0 28 0) := by
      unfold zf_Ma_isStopped
      rw [xs, px_kz x6]
    rw [hst', Option.bind_some]
    rcases x6 with hst | hst
    · have h32 : σ 32 0 = 0 := by
        rcases x7 with h | ⟨-, h⟩
        · exact h
        · rw [hst] at h; exact absurd h (by decide)
      have hR1 : RelM (200 * j + 0) (zz_put σ 12 0 0) (zz_put τ 27 0 0) := by
        have : RelM (200 * j) σ (zz_put τ 27 0 0) := hR0
        simpa [RelM, px_at] using this
      obtain ⟨us, um, g1, g2, g3, g4⟩ := run_loop hN (m := 200 * j) (by omega) (σ 33 0) 300 0 (zz_put σ 12 0 0) (zz_put τ 27 0 0) (-1) (by omega) (by omega) hR1 (Or.inl ⟨by simp [px_at, px_upd], rfl⟩) (by simp [px_at, h32]) (by rw [show (nI 0 : Int32) = 0 from rfl, px_add0]; simp [px_at])
      have g1' : zf_Ma_perform σ (nI N) = some us := g1
      rw [if_pos hst, if_pos hst, g1', Option.bind_some]
      have hRel : Rel (j + 1) us.2 um.2 := RelM.mono g3 (by omega)
      rcases g4 with ⟨a1, a2, a3⟩ | ⟨a1, a2⟩
      · refine ⟨(0, us.1, us.2), um, ?_, Or.inl rfl, g2, ?_, fun _ => a2, hRel⟩
        · unfold zf_Ma_hasFaulted
          rw [a1, px_k0, Option.bind_some, if_pos rfl]
        · unfold zf_Mo_thrown
          rw [a3]
          simp [px_at, px_upd, zh_n]
      · refine ⟨(3, 0, us.2), um, ?_, Or.inr (Or.inr (Or.inr rfl)), g2, ?_, fun h => by simp at h, hRel⟩
        · unfold zf_Ma_hasFaulted
          rw [a1, px_k1, Option.bind_some, if_neg (by decide)]
        · unfold zf_Mo_thrown
          rw [a2]
          simp [zh_n]
    · rw [if_neg (show ¬ zz_put τ 27 0 0 28 0 = 0 by rw [hst]; decide), if_neg (show ¬ zz_put τ 27 0 0 28 0 = 0 by rw [hst]; decide)]
      refine ⟨(2, 0, σ), (0, zz_put (zz_put τ 27 0 0) 27 0 2), rfl, Or.inr (Or.inr (Or.inl rfl)), rfl, ?_, fun h => by simp at h, ((hR.th 0).th 2).step⟩
      simp [zf_Mo_thrown, px_at, px_upd, zh_n]
  · have h1' : zf_Mo_in x1 1 200 = some 0 := h1
    rw [h1', Option.bind_some, px_bad0, Option.bind_some, if_neg (show ¬ (1 : Int32) = 0 by decide)]
    refine ⟨(1, 0, σ), (0, zz_put τ 27 0 1), ?_, Or.inr (Or.inl rfl), rfl, ?_, fun h => by simp at h, (hR.th 1).step⟩
    · rcases h2 with h2 | ⟨h2, h3⟩
      · rw [if_pos h2]
      · rw [if_neg h2, if_neg (show ¬ x1 ≤ (200 : Int32) from h3)]
    · simp [zf_Mo_thrown, px_at, px_upd, zh_n]
