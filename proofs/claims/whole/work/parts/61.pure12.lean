/-! a step; run -/
def mtail (kx : St → Int32 → Option (Int32 × St)) (n : Nat) (σ : St) (op p x1 x2 x3 : Int32) : Option (Int32 × St) :=
  if op = 0 then zz_kz (1 : Int32) (zf_Mo_run_L35 kx n (zz_put (zz_put σ 25 0 ((σ 25 0) + (1 : Int32))) 28 0 (1 : Int32)) x1 (x2 + (1 : Int32)) x3) else (zf_Mo_in op (9 : Int32) (12 : Int32)).bind (fun r10 => if r10 = 0 then (zf_Mo_perform (zz_put σ 25 0 ((σ 25 0) + (1 : Int32))) op p).bind (fun u11 => zf_Mo_run_L35 kx n (zz_put u11.2 24 0 u11.1) x1 (x2 + (1 : Int32)) x3) else zf_Mo_run_L35 kx n (zz_put (zz_put σ 25 0 ((σ 25 0) + (1 : Int32))) 24 0 ((p + (1 : Int32)) &&& (31 : Int32))) x1 (x2 + (1 : Int32)) x3)
def mrest (kx : St → Int32 → Option (Int32 × St)) (n : Nat) (σ : St) (op p x1 x2 x3 : Int32) : Option (Int32 × St) := if p = x3 then mtail kx n σ op p x1 x2 (-1 : Int32) else mtail kx n σ op p x1 x2 x3
def macc (kx : St → Int32 → Option (Int32 × St)) (n : Nat) (σ : St) (op p x1 x2 x3 : Int32) : Option (Int32 × St) := (zf_Mo_in op (9 : Int32) (12 : Int32)).bind (fun r3 => if r3 = 0 then mrest kx n σ op p x1 x2 x3 else (zf_Mo_access σ op p).bind (fun u17 => if u17.1 = 0 then zz_kz (1 : Int32) (some ((0 : Int32), (zz_put (zz_put u17.2 28 0 (1 : Int32)) 27 0 (3 : Int32)))) else mrest kx n u17.2 op p x1 x2 x3))
theorem run_eq (kx : St → Int32 → Option (Int32 × St)) (n : Nat) (σ : St) (x1 x2 x3 : Int32) : zf_Mo_run_L35 kx (n + 1) σ x1 x2 x3 =
    if x1 ≤ x2 then kx σ x2 else if (σ 28 0) = 0 then zz_ck (σ 24 0) 32 (if 0 ≤ x3 then macc kx n σ (σ 0 (σ 24 0).toNatClampNeg) (σ 24 0) x1 x2 x3 else zz_ck (σ 24 0) 32 (if (σ 19 (σ 24 0).toNatClampNeg) = 0 then zz_ck (σ 24 0) 32 ((zf_Mo_endOf (zz_put (zz_put σ 26 0 ((σ 26 0) + (1 : Int32))) 19 (σ 24 0).toNatClampNeg (vp_nar .boolean (1 : Int32))) (σ 24 0)).bind (fun r69 => macc kx n (zz_put (zz_put σ 26 0 ((σ 26 0) + (1 : Int32))) 19 (σ 24 0).toNatClampNeg (vp_nar .boolean (1 : Int32))) (σ 0 (σ 24 0).toNatClampNeg) (σ 24 0) x1 x2 r69)) else zz_ck (σ 24 0) 32 ((zf_Mo_endOf (zz_put σ 19 (σ 24 0).toNatClampNeg (vp_nar .boolean (1 : Int32))) (σ 24 0)).bind (fun r35 => macc kx n (zz_put σ 19 (σ 24 0).toNatClampNeg (vp_nar .boolean (1 : Int32))) (σ 0 (σ 24 0).toNatClampNeg) (σ 24 0) x1 x2 r35)))) else kx σ x2 := by
  rw [zf_Mo_run_L35]
  unfold macc mrest mtail
  rfl
def PE (lf pa x3 : Int32) (q0 : Nat → Int32) : Prop := (lf = 0 ∧ x3 = -1) ∨ ∃ p e : Nat, pa = nI p ∧ x3 = nI e ∧ p ≤ e ∧ e < 32 ∧ lf = nI (e - p + 1) ∧ ∀ i : Nat, p ≤ i → i < e → ¬ isEnd q0 i
theorem sim_reach {m : Nat} {σ τ : St} (hR : RelM m σ τ) {p : Nat} (hp : p < 32) (h24 : τ 24 0 = nI p) {x3 : Int32} (hE : PE (σ 12 0) (τ 24 0) x3 (τ 0)) (hst : τ 28 0 = 0) (kx : St → Int32 → Option (Int32 × St)) (n : Nat) {x1 x2 : Int32} (hx : ¬ x1 ≤ x2) :
    ∃ (σ1 τ1 : St) (e : Nat), zf_Pi_reach σ (nI p) = some σ1 ∧ zf_Mo_run_L35 kx (n + 1) τ x1 x2 x3 = macc kx n τ1 (τ1 0 p) (nI p) x1 x2 (nI e) ∧ p ≤ e ∧ e < 32 ∧ σ1 12 0 = nI (e - p) ∧ (∀ i : Nat, p ≤ i → i < e → ¬ isEnd (τ1 0) i) ∧ (isEnd (τ1 0) p → e = p) ∧ RelM m σ1 τ1 ∧ (∀ v, 29 ≤ v → σ1 v = σ v) ∧ ∀ v, v ≠ 19 → v ≠ 26 → τ1 v = τ v := by
  have h0 : τ 24 0 = nI p := h24
  rw [run_eq, if_neg hx, if_pos hst, h24, px_ck hp (by omega), px_ck hp (by omega), px_ck hp (by omega), px_ck hp (by omega), px_cl (by omega), px_n1]
  rcases hE with ⟨hl, rfl⟩ | ⟨p', e, e1, rfl, e3, e4, e5, e6⟩
  · rw [if_neg (show ¬ (0 : Int32) ≤ -1 by decide)]
    obtain ⟨r1, r2, r3, r4, r5, r6, r7⟩ := hR
    have p0 : σ 5 = τ 0 := r1.1.1
    unfold zf_Pi_reach
    rw [if_pos hl, px_ck hp (by omega), px_ck hp (by omega), px_cl (by omega)]
    rcases r6 p hp with ⟨a1, a2⟩ | ⟨a1, k, hk, a3⟩
    · obtain ⟨k, hk⟩ := len_ex (τ 0) hp
      have hk1 := hk.1
      have hk2 := hk.2.1
      have hk3 := hk.2.2.1
      have hk4 := hk.2.2.2.1
      have hk5 := hk.2.2.2.2
      rw [if_pos a2, if_pos a1, len_eq σ (by rw [p0]; exact hk), Option.bind_some, px_ck hp (by omega), px_ck hp (by omega), endOf_eq _ (show Len ((zz_put (zz_put τ 26 0 (τ 26 0 + 1)) 19 p 1) 0) p k by simpa [px_at] using hk), Option.bind_some]
      refine ⟨_, zz_put (zz_put τ 26 0 (τ 26 0 + 1)) 19 p 1, p + k - 1, rfl, ?_, by omega, by omega, ?_, ?_, ?_, ?_, ?_, ?_⟩
      · rw [show (zz_put (zz_put τ 26 0 (τ 26 0 + 1)) 19 p 1) 0 p = τ 0 p by simp [px_at]]
      · simp [px_at, px_upd]
        rw [show (1 : Int32) = nI 1 from rfl, pk_sub (by omega)]
        congr 1
        omega
      · intro i h1 h2
        have := hk4 (i - p) (by omega)
        rw [show p + (i - p) = i by omega] at this
        simpa [px_at] using this
      · intro he
        by_cases hk0 : k = 1
        · omega
        · exact absurd (by simpa [px_at] using he) (hk4 0 (by omega))
      · refine ⟨by simpa [px_at] using r1, by simpa [px_at] using r2, by simpa [px_at] using r3, by simpa [px_at] using r4, by simpa [px_at] using r5, ?_, ?_⟩
        · intro q hq
          by_cases hqp : q = p
          · subst hqp
            exact Or.inr ⟨by simp [px_at, px_upd], k, by simpa [px_at] using hk, by simp [px_at, px_upd]⟩
          · have := r6 q hq
            simpa [px_at, px_upd, hqp] using this
        · obtain ⟨⟨xa, xd, xt, xs⟩, x5, x6, x7⟩ := r7
          refine ⟨⟨by simp [px_at, xa], by simp [px_at, xd], by simp [px_at, px_upd, xt], by simp [px_at, xs]⟩, by simpa [px_at] using x5, by simpa [px_at] using x6, by simpa [px_at] using x7⟩
      · intro v hv
        simp only [px_at]
        rw [if_neg (by omega), if_neg (by omega), if_neg (by omega), if_neg (by omega)]
      · intro v h1 h2
        simp [px_at, h1, h2]
    · have hk1 := hk.1
      have hk2 := hk.2.1
      have hk3 := hk.2.2.1
      have hk4 := hk.2.2.2.1
      have hk5 := hk.2.2.2.2
      rw [if_neg (show ¬ σ 10 p = 0 by rw [a3]; exact nI_ne0 (by omega) (by omega)), if_neg (show ¬ τ 19 p = 0 by rw [a1]; decide), endOf_eq _ (show Len ((zz_put τ 19 p 1) 0) p k by simpa [px_at] using hk), Option.bind_some]
      refine ⟨_, zz_put τ 19 p 1, p + k - 1, rfl, ?_, by omega, by omega, ?_, ?_, ?_, ?_, ?_, ?_⟩
      · rw [show (zz_put τ 19 p 1) 0 p = τ 0 p by simp [px_at]]
      · simp [px_at, px_upd, a3]
        rw [show (1 : Int32) = nI 1 from rfl, pk_sub (by omega)]
        congr 1
        omega
      · intro i h1 h2
        have := hk4 (i - p) (by omega)
        rw [show p + (i - p) = i by omega] at this
        simpa [px_at] using this
      · intro he
        by_cases hk0 : k = 1
        · omega
        · exact absurd (by simpa [px_at] using he) (hk4 0 (by omega))
      · refine ⟨by simpa [px_at] using r1, by simpa [px_at] using r2, by simpa [px_at] using r3, by simpa [px_at] using r4, by simpa [px_at] using r5, ?_, by simpa [px_at] using r7⟩
        intro q hq
        by_cases hqp : q = p
        · subst hqp
          exact Or.inr ⟨by simp [px_at, px_upd], k, by simpa [px_at] using hk, by simp [px_at, a3]⟩
        · have := r6 q hq
          simpa [px_at, px_upd, hqp] using this
      · intro v hv
        simp only [px_at]
        rw [if_neg (by omega), if_neg (by omega)]
      · intro v h1 h2
        simp [px_at, h1]
  · have hpp : p' = p := by
      rw [h24] at e1
      exact ((nI_eq (by omega) (by omega)).mp e1).symm
    subst hpp
    rw [if_pos (nI_pos' (by omega))]
    unfold zf_Pi_reach
    rw [e5, if_neg (nI_ne0 (by omega) (by omega))]
    refine ⟨_, τ, e, rfl, rfl, e3, e4, ?_, e6, ?_, ?_, ?_, fun _ _ _ => rfl⟩
    · simp [px_at, px_upd]
      exact nI_pred _
    · intro he
      by_cases hpe : p' = e
      · exact hpe.symm
      · exact absurd he (e6 p' (by omega) (by omega))
    · simpa [RelM, px_at] using hR
    · intro v hv
      rw [px_at, if_neg (by omega)]
