/-! the run's loop -/
theorem RelM.mono {m m' : Nat} {σ τ : St} (h : RelM m σ τ) (hm : m ≤ m') : RelM m' σ τ := by
  obtain ⟨h1, h2, h3, h4, h5⟩ := h
  exact ⟨h1, h2, h3, h4.step hm, h5⟩
theorem OpOk.mono {m m' : Nat} {σ τ σ' : St} {u : Int32 × St} (h : OpOk m σ τ σ' u) (hm : m ≤ m') : OpOk m' σ τ σ' u := ⟨h.1.mono hm, h.2⟩
theorem in912 : ∀ o : Nat, o < 19 → zf_Mo_in (nI o) 9 12 = some (if 9 ≤ o ∧ o ≤ 12 then 1 else 0) := by decide
theorem sim_op {m : Nat} {σ τ : St} (hm : m < 2 ^ 30) (hC : Cor m σ τ) {p o : Nat} (hp : p < 32) (h29 : σ 29 0 = nI p) (h24 : τ 24 0 = nI p) (h30 : σ 30 0 = (nI p + 1) &&& 31) (ho : (1 ≤ o ∧ o ≤ 8) ∨ (13 ≤ o ∧ o ≤ 18)) :
    ∃ σ' u, (if (8 : Int32) < nI o then if (12 : Int32) < nI o then if (16 : Int32) < nI o then if nI o = (17 : Int32) then (zf_Ma_ask σ).bind (fun u7 => zf_Ma_step_b117 u7) else (zf_Ma_give σ).bind (fun u4 => zf_Ma_step_b117 u4) else (zf_Ma_jump σ (nI o)).bind (fun u10 => zf_Ma_step_b117 u10) else (zf_Ma_useMemory σ (nI o)).bind (fun u13 => zf_Ma_step_b117 u13) else (zf_Ma_calculate σ (nI o)).bind (fun u16 => zf_Ma_step_b117 u16)) = zf_Ma_step_b117 σ' ∧
      zf_Mo_perform τ (nI o) (nI p) = some u ∧ OpOk (m + 1) σ τ σ' u ∧ (¬ (13 ≤ o ∧ o ≤ 16) → u.1 = (nI p + 1) &&& 31) := by
  have l8 : ((8 : Int32) < nI o) ↔ 8 < o := nI_ltI (a := 8) (by omega) (by omega)
  have l12 : ((12 : Int32) < nI o) ↔ 12 < o := nI_ltI (a := 12) (by omega) (by omega)
  have l16 : ((16 : Int32) < nI o) ↔ 16 < o := nI_ltI (a := 16) (by omega) (by omega)
  rcases ho with ho | ho
  · obtain ⟨σ', u, g1, g2, g3, g4⟩ := sim_op8 hC hp h29 h30 ho.1 ho.2
    rw [if_neg (fun h => by have := l8.mp h; omega), g1, Option.bind_some]
    exact ⟨σ', u, rfl, g2, g3.mono (by omega), fun _ => g4⟩
  · rw [if_pos (l8.mpr (by omega)), if_pos (l12.mpr (by omega))]
    by_cases h16 : o ≤ 16
    · obtain ⟨σ', u, g1, g2, g3⟩ := sim_jump hC hp h29 h24 h30 ho.1 h16
      rw [if_neg (fun h => by have := l16.mp h; omega), g1, Option.bind_some]
      exact ⟨σ', u, rfl, g2, g3.mono (by omega), fun h => absurd ⟨ho.1, h16⟩ h⟩
    · rw [if_pos (l16.mpr (by omega))]
      have : o = 17 ∨ o = 18 := by omega
      rcases this with rfl | rfl
      · obtain ⟨σ', u, g1, g2, g3, g4⟩ := sim_ask hC hp h29 h24 h30
        rw [if_pos (show (nI 17 : Int32) = 17 from rfl), g1, Option.bind_some]
        exact ⟨σ', u, rfl, g2, g3.mono (by omega), fun _ => g4⟩
      · obtain ⟨σ', u, g1, g2, g3, g4⟩ := sim_give hm hC hp h29 h24 h30
        rw [if_neg (show ¬ (nI 18 : Int32) = 17 by decide), g1, Option.bind_some]
        exact ⟨σ', u, rfl, g2, g3, fun _ => g4⟩
/-- after an instruction: the place and the count of done -/
theorem fin_step {m m' : Nat} {σ1 τ1 σ3 : St} {u : Int32 × St} {nx : Int32} (hR : RelM m σ1 τ1) (h32 : σ1 32 0 = 0) (h28 : τ1 28 0 = 0) (hO : OpOk m' (zz_put σ1 30 0 nx) (zz_put τ1 25 0 (τ1 25 0 + 1)) σ3 u) :
    ∃ σ4 : St, zf_Ma_step_b117 σ3 = some σ4 ∧ RelM m' σ4 (zz_put u.2 24 0 u.1) ∧ σ4 32 0 = 0 ∧ σ4 33 0 = σ1 33 0 + 1 ∧ σ4 12 0 = σ1 12 0 ∧ (zz_put u.2 24 0 u.1) 27 0 = τ1 27 0 ∧ (zz_put u.2 24 0 u.1) 0 = τ1 0 ∧ (zz_put u.2 24 0 u.1) 24 0 = u.1 := by
  obtain ⟨hC, hs, ht, h30, q, hq, hu⟩ := hO
  obtain ⟨-, -, -, -, -, -, ⟨xa, xd, xt, xs⟩, x5, x6, x7⟩ := hR
  have s12 : σ3 12 = σ1 12 := by rw [hs 12 (by omega) (by omega)]; simp [px_at]
  have s11 : σ3 11 = σ1 11 := by rw [hs 11 (by omega) (by omega)]; simp [px_at]
  have s31 : σ3 31 = σ1 31 := by rw [hs 31 (by omega) (by omega)]; simp [px_at]
  have s32 : σ3 32 = σ1 32 := by rw [hs 32 (by omega) (by omega)]; simp [px_at]
  have s33 : σ3 33 = σ1 33 := by rw [hs 33 (by omega) (by omega)]; simp [px_at]
  have t0 : u.2 0 = τ1 0 := by rw [ht 0 (by omega)]; simp [px_at]
  have t25 : u.2 25 0 = τ1 25 0 + 1 := by rw [ht 25 (by omega)]; simp [px_at, px_upd]
  have t26 : u.2 26 = τ1 26 := by rw [ht 26 (by omega)]; simp [px_at]
  have t27 : u.2 27 = τ1 27 := by rw [ht 27 (by omega)]; simp [px_at]
  have t28 : u.2 28 = τ1 28 := by rw [ht 28 (by omega)]; simp [px_at]
  refine ⟨zz_put (zz_put σ3 29 0 (σ3 30 0)) 33 0 (σ3 33 0 + 1), ?_, ?_, ?_, ?_, ?_, ?_, ?_, ?_⟩
  · unfold zf_Ma_step_b117
    rw [s32, if_pos h32]
    simp [px_at]
  · rw [RelM_iff]
    refine ⟨by simpa [Cor, px_at] using hC, ⟨?_, ?_, ?_, ?_⟩, ⟨q, hq, ?_⟩, ?_, ?_⟩
    · simp [px_at, px_upd, h30]
    · simp [px_at, px_upd, s33, t25, xd]
    · simp [px_at, s11, t26, xt]
    · simp [px_at, s31, t28, xs]
    · simp [px_at, px_upd, hu]
    · left; simp [px_at, t28, h28]
    · left; simp [px_at, s32, h32]
  · simp [px_at, s32, h32]
  · simp [px_at, px_upd, s33]
  · simp [px_at, s12]
  · simp [px_at, t27]
  · simp [px_at, t0]
  · simp [px_at, px_upd]
theorem pe_next {σ1 τ1 σ4 τ4 : St} {p e o : Nat} (hp : p < 32) (hpe : p ≤ e) (he : e < 32) (h12 : σ1 12 0 = nI (e - p)) (hE : ∀ i : Nat, p ≤ i → i < e → ¬ isEnd (τ1 0) i) (h0 : τ1 0 p = nI o) (ho : o ≤ 18) {u : Int32} (hu : ¬ (13 ≤ o ∧ o ≤ 16) → u = (nI p + 1) &&& 31) (s12 : σ4 12 0 = σ1 12 0) (t0 : τ4 0 = τ1 0) (t24 : τ4 24 0 = u) :
    PE (σ4 12 0) (τ4 24 0) (if nI p = nI e then -1 else nI e) (τ4 0) := by
  by_cases h : p = e
  · subst h
    rw [if_pos rfl]
    left
    refine ⟨?_, rfl⟩
    rw [s12, h12, Nat.sub_self]
    rfl
  · rw [if_neg (fun hh => h ((nI_eq (by omega) (by omega)).mp hh))]
    right
    have hne := hE p (by omega) (by omega)
    have hno : ¬ (13 ≤ o ∧ o ≤ 16) := by
      intro hh
      apply hne
      unfold isEnd
      rw [h0]
      refine Or.inr (Or.inl ⟨?_, ?_⟩)
      · exact nI_nlt (b := 13) (by omega) (by omega)
      · exact nI_le (b := 16) (by omega) (by omega)
    refine ⟨p + 1, e, ?_, rfl, by omega, he, ?_, ?_⟩
    · rw [t24, hu hno, nI_1, pk_andN (by omega) 5 (by decide), Nat.mod_eq_of_lt (by omega)]
    · rw [s12, h12]
      congr 1
      omega
    · intro i h1 h2
      rw [t0]
      exact hE i (by omega) h2
theorem mrest_eq (kx : St → Int32 → Option (Int32 × St)) (n : Nat) (σ : St) (op p x1 x2 x3 : Int32) : mrest kx n σ op p x1 x2 x3 = mtail kx n σ op p x1 x2 (if p = x3 then -1 else x3) := by
  unfold mrest
  split <;> rfl
