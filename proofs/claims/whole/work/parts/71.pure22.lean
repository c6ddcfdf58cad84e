/-! block, leaks -/
theorem Rel.sc {j : Nat} (hj : j < 512) {σ τ : St} (hR : Rel j σ τ) : ∃ n, SC (200 * j) n σ τ := by
  have hC := (RelM_iff.mp hR).1
  obtain ⟨-, c, n, hc, qc, hn, qn, -⟩ := id hC.2.2.2.1
  exact ⟨n, hn, by omega, hC, qn⟩
theorem Rel.scan {j : Nat} {σ τ σ' τ' : St} (hR : Rel j σ τ) (hs : ∀ v, v ≠ 26 → v ≠ 27 → v ≠ 28 → σ' v = σ v) (ht : ∀ v, v ≠ 14 → τ' v = τ v) : Rel j σ' τ' := by
  have h : RelM (200 * j) σ τ := hR
  show RelM (200 * j) σ' τ'
  simpa [RelM, hs, ht] using h
theorem hm_loop (σ : St) (kx : Int32 → Option Int32) {s : Nat} (hs : s ≤ 10) (hS : σ 23 0 = nI s) (x1 : Int32) : ∀ (n k : Nat) (a : Int32), k ≤ s → s - k < n → zf_LS_howMany_L4 σ kx n x1 a (nI k) = kx (fld (fun i a => if σ 26 i = x1 then a + 1 else a) (s - k) k a) := by
  intro n
  induction n with
  | zero => intro k a h1 h2; omega
  | succ n ih =>
    intro k a hk hn
    rw [zf_LS_howMany_L4, zf_He_there, Option.bind_some, hS]
    by_cases h : k = s
    · subst h
      rw [if_pos (nI_le (Nat.le_refl _) (by omega)), Nat.sub_self, fld]
    · rw [if_neg (nI_ge (by omega) (by omega)), px_ck (by omega) (by omega), nI_1, px_cl (by omega), show s - k = s - (k + 1) + 1 by omega, fld]
      by_cases hc : σ 26 k = x1
      · rw [if_pos hc, if_pos hc, ih (k + 1) _ (by omega) (by omega)]
      · rw [if_neg hc, if_neg hc, ih (k + 1) _ (by omega) (by omega)]
theorem ml_loop (τ : St) (kx : St → Int32 → Option (Int32 × St)) {s : Nat} (hs : s ≤ 10) (hS : τ 20 0 = nI s) (x1 : Int32) : ∀ (n k : Nat) (a : Int32), k ≤ s → s - k < n → zf_Mo_leaks_L23 kx n τ x1 a (nI k) = kx τ (fld (fun i a => if τ 13 i = 0 then (if τ 14 i = x1 then a + 1 else a) else a) (s - k) k a) := by
  intro n
  induction n with
  | zero => intro k a h1 h2; omega
  | succ n ih =>
    intro k a hk hn
    rw [zf_Mo_leaks_L23, hS]
    by_cases h : k = s
    · subst h
      rw [if_pos (nI_le (Nat.le_refl _) (by omega)), Nat.sub_self, fld]
    · rw [if_neg (nI_ge (by omega) (by omega)), px_ck (by omega) (by omega), px_ck (by omega) (by omega), nI_1, px_cl (by omega), show s - k = s - (k + 1) + 1 by omega, fld]
      by_cases hc : τ 13 k = 0
      · rw [if_pos hc, if_pos hc]
        by_cases hd : τ 14 k = x1
        · rw [if_pos hd, if_pos hd, ih (k + 1) _ (by omega) (by omega)]
        · rw [if_neg hd, if_neg hd, ih (k + 1) _ (by omega) (by omega)]
      · rw [if_neg hc, if_neg hc, ih (k + 1) _ (by omega) (by omega)]
theorem sim_leaks (j : Nat) (σ τ : St) (x1 : Int32) (hj : j < 512) (hR : Rel j σ τ) : ∃ (out : TO) (r : Int32 × St), zf_SW_leaks σ x1 = some out ∧ (out.1 = 0 ∨ out.1 = 1) ∧ zf_Mo_leaks τ x1 = some r ∧ zf_Mo_thrown r.2 = some (zh_n out.1) ∧ (out.1 = 0 → out.2.1 = r.1) ∧ Rel (j + 1) out.2.2 r.2 := by
  unfold zf_SW_leaks zf_Mo_leaks
  rcases in1 x1 (n := 4) (by omega) with ⟨N, hN1, hN, rfl, h1, h2, h3⟩ | ⟨h1, h2⟩
  · have h1' : zf_Mo_in (nI N) 1 4 = some 1 := h1
    have h3' : nI N ≤ 4 := h3
    have hR0 := hR.th 0
    obtain ⟨n, hS⟩ := hR0.sc hj
    have hn := hS.1
    obtain ⟨σ', τ', g1, g2, g3, g4, g5, g6⟩ := scan_sim hS
    have h23 : σ' 23 0 = nI n := by rw [g3 23 (by omega) (by omega) (by omega), hS.2.2.1.2.2.2.1.1.2.2.2.2.1, hS.2.2.2]
    have h20 : τ' 20 0 = nI n := by rw [g4 20 (by omega), hS.2.2.2]
    have hq : zf_LS_howMany σ' (nI N) = some _ := hm_loop σ' (fun y_2 => some y_2) hn h23 (nI N) 300 0 0 (by omega) (by omega)
    have hq' := ml_loop τ' (fun s7 s7_2 => some (s7_2, s7)) hn h20 (nI N) 300 0 0 (by omega) (by omega)
    have hq'' : zf_Mo_leaks_L23 (fun s7 s7_2 => some (s7_2, s7)) 300 τ' (nI N) 0 0 = some _ := hq'
    rw [if_neg h2, if_pos h3', h1', Option.bind_some, px_bad1, Option.bind_some, if_pos rfl, g1, g2, Option.bind_some, Option.bind_some, hq, Option.bind_some, hq'']
    refine ⟨_, _, rfl, Or.inl rfl, rfl, ?_, fun _ => ?_, (hR0.scan g3 g4).step⟩
    · unfold zf_Mo_thrown
      dsimp only
      rw [g4 27 (by omega)]
      simp [px_at, px_upd, zh_n]
    · apply fld_congr
      intro i a _ hi
      have hi' : i < n := by omega
      rw [g5 i hi']
      by_cases hl : τ' 13 i = 0
      · rw [if_pos hl]
      · rw [if_neg hl, g6 i hi' (by rw [← g4 13 (by omega)]; exact hl), if_neg]
        intro e
        exact nI_ne0 (show 0 < N by omega) (by omega) e.symm
  · have h1' : zf_Mo_in x1 1 4 = some 0 := h1
    rw [h1', Option.bind_some, px_bad0, Option.bind_some, if_neg (show ¬ (1 : Int32) = 0 by decide)]
    refine ⟨(1, 0, σ), (0, zz_put τ 27 0 1), ?_, Or.inr rfl, rfl, ?_, fun h => by simp at h, (hR.th 1).step⟩
    · rcases h2 with h2 | ⟨h2, h3⟩
      · rw [if_pos h2]
      · rw [if_neg h2, if_neg (show ¬ x1 ≤ (4 : Int32) from h3)]
    · simp [zf_Mo_thrown, px_at, px_upd, zh_n]
theorem num_loop (kx : Option Int32) (kx' : St → Int32 → Int32 → Option (Int32 × St)) {σ τ : St} {n : Nat} (hn : n ≤ 10) (h23 : σ 23 0 = nI n) (h20 : τ 20 0 = nI n) (h18 : σ 18 = τ 10) (x y : Int32) :
    ∀ f k : Nat, k ≤ n → n - k < f → (∃ i : Nat, i < n ∧ zf_He_indexOfNumber_L2 σ kx f x (nI k) = some (nI i) ∧ zf_Mo_block_L17 kx' f τ x y (nI k) = kx' τ y (nI i)) ∨ (zf_He_indexOfNumber_L2 σ kx f x (nI k) = kx ∧ zf_Mo_block_L17 kx' f τ x y (nI k) = kx' τ y (nI n)) := by
  intro f
  induction f with
  | zero => intro k h1 h2; omega
  | succ f ih =>
    intro k hk hf
    rw [zf_He_indexOfNumber_L2, zf_Mo_block_L17, h23, h20]
    by_cases h : k = n
    · subst h
      rw [if_pos (nI_le (Nat.le_refl _) (by omega)), if_pos (nI_le (Nat.le_refl _) (by omega))]
      exact Or.inr ⟨rfl, rfl⟩
    · have hk10 : k < 10 := by omega
      simp only [if_neg (nI_ge (show k < n by omega) (show n < 2 ^ 31 by omega)), px_ck hk10 (show 10 < 2 ^ 31 by omega), px_cl (show k < 2 ^ 31 by omega), h18, nI_1]
      by_cases hx : τ 10 k = x
      · rw [if_pos hx, if_pos hx]
        exact Or.inl ⟨k, by omega, rfl, rfl⟩
      · rw [if_neg hx, if_neg hx]
        exact ih (k + 1) (by omega) (by omega)
theorem sim_block (j : Nat) (σ τ : St) (x1 x2 : Int32) (hj : j < 512) (hR : Rel j σ τ) : ∃ (out : TO) (r : Int32 × St), zf_SW_block σ x1 x2 = some out ∧ (out.1 = 0 ∨ out.1 = 1 ∨ out.1 = 4) ∧ zf_Mo_block τ x1 x2 = some r ∧ zf_Mo_thrown r.2 = some (zh_n out.1) ∧ (out.1 = 0 → out.2.1 = r.1) ∧ Rel (j + 1) out.2.2 r.2 := by
  have e1 : zf_Mo_in x2 0 3 = some (chk x2 3) := chk_in0 x2 3
  have e3 : zf_SW_isWithin x2 3 = some (chk x2 3) := chk_within x2 3
  rcases chk01 x2 3 with h1 | h1
  · refine ⟨(1, 0, σ), (0, zz_put τ 27 0 1), ?_, Or.inr (Or.inl rfl), ?_, ?_, fun h => by simp at h, (hR.th 1).step⟩
    · simp [zf_SW_block, e3, h1]
    · simp [zf_Mo_block, e1, h1, px_bad0]
    · simp [zf_Mo_thrown, px_at, px_upd, zh_n]
  · have hR0 := hR.th 0
    obtain ⟨n, hS⟩ := hR0.sc hj
    have hn := hS.1
    have h20 : (zz_put τ 27 0 0) 20 0 = nI n := hS.2.2.2
    obtain ⟨⟨p0, p1, p2, p3, pn, pg, pc⟩, -⟩ := id hS.2.2.1.2.2.2.1
    have h23 : σ 23 0 = nI n := by rw [pn, h20]
    unfold zf_SW_block zf_Mo_block zf_He_indexOfNumber
    rw [e3, e1, h1, Option.bind_some, Option.bind_some, px_bad1, Option.bind_some, if_neg (show ¬ (1 : Int32) = 0 by decide), if_pos rfl]
    dsimp only
    rcases num_loop (some (-1)) (fun s5 s5_2 s5_3 => if s5_3 = (s5 20 0) then some ((0 : Int32), (zz_put s5 27 0 (2 : Int32))) else (zf_Mo_scan s5).bind (fun u6 => if s5_2 = 0 then zz_ck s5_3 10 (some ((u6 11 s5_3.toNatClampNeg), u6)) else if s5_2 = (1 : Int32) then zz_ck s5_3 10 (some ((u6 12 s5_3.toNatClampNeg), u6)) else if s5_2 = (2 : Int32) then zz_ck s5_3 10 (if (u6 13 s5_3.toNatClampNeg) ≤ 0 then some ((1 : Int32), u6) else some ((2 : Int32), u6)) else zz_ck s5_3 10 (some ((u6 14 s5_3.toNatClampNeg), u6)))) hn h23 h20 p0 x1 x2 300 0 (by omega) (by omega) with ⟨i, hi, k1, k2⟩ | ⟨k1, k2⟩
    · rw [show (nI 0 : Int32) = 0 from rfl] at k1 k2
      have hi10 : i < 10 := by omega
      obtain ⟨σ', τ', g1, g2, g3, g4, g5, g6⟩ := scan_sim hS
      obtain ⟨a, z, t, hb, ht, s1, s2, s3⟩ := hS.blk hi
      have hth : zf_Mo_thrown τ' = some (zh_n 0) := by
        unfold zf_Mo_thrown
        rw [g4 27 (by omega)]
        simp [px_at, px_upd, zh_n]
      have hRs : Rel (j + 1) σ τ' := (hR0.scan (fun _ _ _ _ => rfl) g4).step
      have hRs' : Rel (j + 1) σ' τ' := (hR0.scan g3 g4).step
      rw [k1, k2, Option.bind_some, if_neg (px_ne1 (by omega)), h20, if_neg (show ¬ nI i = nI n from fun e => by have := (nI_eq (by omega) (by omega)).mp e; omega), g2, Option.bind_some]
      simp only [px_ck hi10 (show 10 < 2 ^ 31 by omega), px_cl (show i < 2 ^ 31 by omega), g4 11 (by omega), g4 12 (by omega), g4 13 (by omega)]
      by_cases c0 : x2 = 0
      · rw [if_pos c0, if_pos c0]
        unfold zf_He_address
        rw [px_ck hi10 (by omega), px_cl (by omega), p1, Option.bind_some]
        exact ⟨_, _, rfl, Or.inl rfl, rfl, hth, fun _ => rfl, hRs⟩
      · rw [if_neg c0, if_neg c0]
        by_cases c1 : x2 = 1
        · rw [if_pos c1, if_pos c1]
          unfold zf_He_size
          rw [px_ck hi10 (by omega), px_cl (by omega), p2, Option.bind_some]
          exact ⟨_, _, rfl, Or.inl rfl, rfl, hth, fun _ => rfl, hRs⟩
        · rw [if_neg c1, if_neg c1]
          by_cases c2 : x2 = 2
          · rw [if_pos c2, if_pos c2, px_live σ hi10, Option.bind_some, p3, hb.2.2.1]
            by_cases ht0 : t = 0
            · rw [if_pos ((px_eq0 (by omega)).mpr ht0), if_neg (show ¬ (1 : Int32) = 0 by decide), if_pos ((px_le0 (by omega)).mpr ht0)]
              exact ⟨_, _, rfl, Or.inl rfl, rfl, hth, fun _ => rfl, hRs⟩
            · rw [if_neg (fun e => ht0 ((px_eq0 (by omega)).mp e)), if_pos rfl, if_neg (fun e => ht0 ((px_le0 (by omega)).mp e))]
              exact ⟨_, _, rfl, Or.inl rfl, rfl, hth, fun _ => rfl, hRs⟩
          · rw [if_neg c2, if_neg c2, g1, Option.bind_some]
            unfold zf_LS_verdict
            rw [px_ck hi10 (by omega), px_cl (by omega), Option.bind_some]
            exact ⟨_, _, rfl, Or.inl rfl, rfl, hth, fun _ => g5 i hi, hRs'⟩
    · rw [show (nI 0 : Int32) = 0 from rfl] at k1 k2
      rw [k1, k2, Option.bind_some, if_pos rfl, h20, if_pos rfl]
      refine ⟨(4, 0, σ), _, rfl, Or.inr (Or.inr rfl), rfl, ?_, fun h => by simp at h, ((hR.th 0).th 2).step⟩
      simp [zf_Mo_thrown, px_at, px_upd, zh_n]
