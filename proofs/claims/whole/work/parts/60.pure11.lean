/-! giving a block back -/
theorem Cor.mono {m m' : Nat} {σ τ : St} (h : Cor m σ τ) (hm : m ≤ m') : Cor m' σ τ := by
  obtain ⟨h1, h2, h3, h4, h5⟩ := h
  exact ⟨h1, h2, h3, h4.step hm, h5⟩
theorem find_loop (kx : Option Int32) (kx' : St → Int32 → Int32 → Option St) {σ τ : St} {n : Nat} (hn : n ≤ 10) (h23 : σ 23 0 = nI n) (h20 : τ 20 0 = nI n) (h19 : σ 19 = τ 11) (x : Int32) :
    ∀ f k : Nat, k ≤ n → n - k < f → (∃ i : Nat, i < n ∧ τ 11 i = x ∧ zf_He_indexOfAddress_L2 σ kx f x (nI k) = some (nI i) ∧ zf_Mo_give_L2 kx' f τ x (nI k) = kx' τ x (nI i)) ∨ (zf_He_indexOfAddress_L2 σ kx f x (nI k) = kx ∧ zf_Mo_give_L2 kx' f τ x (nI k) = kx' τ x (nI n)) := by
  intro f
  induction f with
  | zero => intro k h1 h2; omega
  | succ f ih =>
    intro k hk hf
    rw [zf_He_indexOfAddress_L2, zf_Mo_give_L2, h23, h20]
    by_cases h : k = n
    · subst h
      rw [if_pos (nI_le (Nat.le_refl _) (by omega)), if_pos (nI_le (Nat.le_refl _) (by omega))]
      exact Or.inr ⟨rfl, rfl⟩
    · have hk10 : k < 10 := by omega
      simp only [if_neg (nI_ge (show k < n by omega) (show n < 2 ^ 31 by omega)), px_ck hk10 (show 10 < 2 ^ 31 by omega), px_cl (show k < 2 ^ 31 by omega), h19, nI_1]
      by_cases hx : τ 11 k = x
      · rw [if_pos hx, if_pos hx]
        exact Or.inl ⟨k, by omega, hx, rfl, rfl⟩
      · rw [if_neg hx, if_neg hx]
        exact ih (k + 1) (by omega) (by omega)
theorem RBi.rest {c n : Nat} {pw q1 q2 q3 : Nat → Int32} (h : RBi c n pw q1 q2 q3) {i : Nat} (hi : i < n) : RBi (c + 1) n pw q1 q2 (upd q3 i (nI (c + 1))) := by
  have key : ∀ k a z t, Bk q1 q2 (upd q3 i (nI (c + 1))) k a z t → ∃ t', Bk q1 q2 q3 k a z t' ∨ (k = i ∧ q1 k = nI a ∧ q2 k = nI z ∧ 68 ≤ a ∧ a + rmz z + 4 ≤ 224 ∧ z ≤ 48) := by
    intro k a z t hb
    obtain ⟨b1, b2, b3, b4, b5, b6, b7, b8⟩ := hb
    by_cases hk : k = i
    · exact ⟨0, Or.inr ⟨hk, b1, b2, b4, b7, b6⟩⟩
    · exact ⟨t, Or.inl ⟨b1, b2, by simpa [px_upd, hk] using b3, b4, b5, b6, b7, b8⟩⟩
  have key2 : ∀ k a z t, k < n → Bk q1 q2 (upd q3 i (nI (c + 1))) k a z t → ∃ t', Bk q1 q2 q3 k a z t' := by
    intro k a z t hk hb
    obtain ⟨t', h1 | ⟨h1, h2, h3, h4, h5, h6⟩⟩ := key k a z t hb
    · exact ⟨t', h1⟩
    · obtain ⟨a', z', t'', hb', -⟩ := h.1 k hk
      have hb0 := hb'
      obtain ⟨b1, b2, b3, b4, b5, b6, b7, b8⟩ := hb'
      rw [b1] at h2
      rw [b2] at h3
      have e1 := (nI_eq (by omega) (by omega)).mp h2
      have e2 := (nI_eq (by omega) (by omega)).mp h3
      subst e1
      subst e2
      exact ⟨t'', hb0⟩
  refine ⟨fun k hk => ?_, fun k k' a z t a' z' t' hk hk' hne hb hb' => ?_⟩
  · obtain ⟨a, z, t, ⟨b1, b2, b3, b4, b5, b6, b7, b8⟩, h2, h3⟩ := h.1 k hk
    by_cases hki : k = i
    · exact ⟨a, z, c + 1, ⟨b1, b2, by simp [px_upd, hki], b4, b5, b6, b7, b8⟩, Nat.le_refl _, h3⟩
    · exact ⟨a, z, t, ⟨b1, b2, by simp [px_upd, hki, b3], b4, b5, b6, b7, b8⟩, by omega, h3⟩
  · obtain ⟨t1, h1⟩ := key2 k a z t hk hb
    obtain ⟨t2, h2⟩ := key2 k' a' z' t' hk' hb'
    exact h.2 k k' a z t1 a' z' t2 hk hk' hne h1 h2
theorem lr_loop (kx : Int32 → Option Int32) (kx' : St → Int32 → Option St) {σ τ : St} {n c : Nat} (hn : n ≤ 10) (h23 : σ 23 0 = nI n) (h20 : τ 20 0 = nI n) (h22 : σ 22 = τ 13) (hc : c < 2 ^ 31) (ht : ∀ k, k < n → ∃ t, t ≤ c ∧ τ 13 k = nI t) :
    ∀ (f k : Nat) (x : Int32), k ≤ n → n - k < f → ((x = -1 ∧ ∀ i, i < k → τ 13 i = 0) ∨ ∃ j : Nat, j < n ∧ x = nI j) →
    ∃ y, zf_He_longestResting_L4 σ kx f x (nI k) = kx y ∧ zf_Mo_forget_L4 kx' f τ x (nI k) = kx' τ y ∧ ((y = -1 ∧ ∀ i, i < n → τ 13 i = 0) ∨ ∃ j : Nat, j < n ∧ y = nI j) := by
  intro f
  induction f with
  | zero => intro k x h1 h2; omega
  | succ f ih =>
    intro k x hk hf hx
    rw [zf_He_longestResting_L4, zf_Mo_forget_L4, h23, h20]
    by_cases h : k = n
    · subst h
      rw [if_pos (nI_le (Nat.le_refl _) (by omega)), if_pos (nI_le (Nat.le_refl _) (by omega))]
      exact ⟨x, rfl, rfl, hx⟩
    · have hk10 : k < 10 := by omega
      obtain ⟨t, ht1, ht2⟩ := ht k (by omega)
      have l0 := px_le0 (show t < 2 ^ 31 by omega)
      have z0 := px_eq0 (show t < 2 ^ 31 by omega)
      rw [if_neg (nI_ge (show k < n by omega) (by omega)), if_neg (nI_ge (show k < n by omega) (by omega)), px_live σ hk10, Option.bind_some, px_ck hk10 (by omega), px_ck hk10 (by omega), px_ck hk10 (by omega), px_cl (by omega), nI_1, h22, ht2]
      by_cases ht0 : t = 0
      · rw [if_pos (z0.mpr ht0), if_neg (by decide), if_pos (l0.mpr ht0)]
        refine ih (k + 1) x (by omega) (by omega) ?_
        rcases hx with ⟨hx, hl⟩ | hx
        · refine Or.inl ⟨hx, fun i hi => ?_⟩
          by_cases hik : i = k
          · rw [hik, ht2, ht0]; rfl
          · exact hl i (by omega)
        · exact Or.inr hx
      · rw [if_neg (fun e => ht0 (z0.mp e)), if_pos rfl, if_neg (fun e => ht0 (l0.mp e))]
        rcases hx with ⟨hx, hl⟩ | ⟨j, hj, hx⟩
        · rw [hx, if_pos rfl, if_pos (by decide)]
          exact ih (k + 1) (nI k) (by omega) (by omega) (Or.inr ⟨k, by omega, rfl⟩)
        · have hj10 : j < 10 := by omega
          rw [hx, if_neg (px_ne1 (by omega)), if_neg (nI_pos (by omega)), px_ck hj10 (by omega), px_ck hj10 (by omega), px_cl (by omega)]
          by_cases hle : τ 13 j ≤ nI t
          · rw [if_pos hle, if_pos hle]
            exact ih (k + 1) (nI j) (by omega) (by omega) (Or.inr ⟨j, hj, rfl⟩)
          · rw [if_neg hle, if_neg hle]
            exact ih (k + 1) (nI k) (by omega) (by omega) (Or.inr ⟨k, by omega, rfl⟩)
def sh (f : Nat → Int32) (k n1 : Nat) : Nat → Int32 := fun i => if k ≤ i ∧ i < n1 then f (i + 1) else f i
theorem sh_end (f : Nat → Int32) (n1 : Nat) : sh f n1 n1 = f := by
  funext i
  unfold sh
  rw [if_neg (by omega)]
theorem sh_step (f : Nat → Int32) {k n1 : Nat} (h : k < n1) : sh (upd f k (f (k + 1))) (k + 1) n1 = sh f k n1 := by
  funext i
  unfold sh
  simp only [px_upd]
  by_cases h1 : k + 1 ≤ i ∧ i < n1
  · rw [if_pos h1, if_neg (by omega), if_pos (by omega)]
  · rw [if_neg h1]
    by_cases h2 : i = k
    · rw [if_pos h2, if_pos (by omega), h2]
    · rw [if_neg h2, if_neg (by omega)]
theorem rem_loop (kx : St → Option St) {n1 : Nat} (hn : n1 ≤ 9) : ∀ (f k : Nat) (σ : St), k ≤ n1 → n1 - k < f → σ 23 0 = nI n1 → ∃ σ' : St, zf_He_remove_L18 kx f σ (nI k) = kx σ' ∧ (∀ v, 18 ≤ v → v ≤ 22 → σ' v = sh (σ v) k n1) ∧ ∀ v, ¬ (18 ≤ v ∧ v ≤ 22) → σ' v = σ v := by
  intro f
  induction f with
  | zero => intro k σ h1 h2; omega
  | succ f ih =>
    intro k σ hk hf h23
    rw [zf_He_remove_L18, h23]
    by_cases h : k = n1
    · subst h
      rw [if_pos (nI_le (Nat.le_refl _) (by omega))]
      exact ⟨σ, rfl, fun v _ _ => (sh_end _ _).symm, fun _ _ => rfl⟩
    · have hk10 : k < 10 := by omega
      have hk11 : k + 1 < 10 := by omega
      rw [if_neg (nI_ge (show k < n1 by omega) (by omega))]
      simp only [nI_1, px_ck hk10 (show 10 < 2 ^ 31 by omega), px_ck hk11 (show 10 < 2 ^ 31 by omega), px_cl (show k < 2 ^ 31 by omega), px_cl (show k + 1 < 2 ^ 31 by omega)]
      have e : (zz_put (zz_put (zz_put (zz_put (zz_put σ 18 k (σ 18 (k + 1))) 19 k (σ 19 (k + 1))) 20 k (σ 20 (k + 1))) 21 k (σ 21 (k + 1))) 22 k (σ 22 (k + 1))) 23 0 = nI n1 := by simp [px_at, h23]
      obtain ⟨σ', g1, g2, g3⟩ := ih (k + 1) _ (by omega) (by omega) e
      refine ⟨σ', ?_, fun v h1 h2 => ?_, fun v hv => ?_⟩
      · rw [← g1]
        simp [px_at]
      · rw [g2 v h1 h2, ← sh_step (σ v) (show k < n1 by omega)]
        congr 1
        have : v = 18 ∨ v = 19 ∨ v = 20 ∨ v = 21 ∨ v = 22 := by omega
        rcases this with rfl | rfl | rfl | rfl | rfl <;> simp [px_at]
      · rw [g3 v hv]
        simp only [px_at]
        rw [if_neg (by omega), if_neg (by omega), if_neg (by omega), if_neg (by omega), if_neg (by omega)]
theorem for_loop (kx : St → Option St) {n1 : Nat} (hn : n1 ≤ 9) : ∀ (f k : Nat) (τ : St), k ≤ n1 → n1 - k < f → τ 20 0 = nI n1 → ∃ τ' : St, zf_Mo_forget_L60 kx f τ (nI k) = kx τ' ∧ (∀ v, 10 ≤ v → v ≤ 13 → τ' v = sh (τ v) k n1) ∧ ∀ v, ¬ (10 ≤ v ∧ v ≤ 13) → τ' v = τ v := by
  intro f
  induction f with
  | zero => intro k τ h1 h2; omega
  | succ f ih =>
    intro k τ hk hf h20
    rw [zf_Mo_forget_L60, h20]
    by_cases h : k = n1
    · subst h
      rw [if_pos (nI_le (Nat.le_refl _) (by omega))]
      exact ⟨τ, rfl, fun v _ _ => (sh_end _ _).symm, fun _ _ => rfl⟩
    · have hk10 : k < 10 := by omega
      have hk11 : k + 1 < 10 := by omega
      rw [if_neg (nI_ge (show k < n1 by omega) (by omega))]
      simp only [nI_1, px_ck hk10 (show 10 < 2 ^ 31 by omega), px_ck hk11 (show 10 < 2 ^ 31 by omega), px_cl (show k < 2 ^ 31 by omega), px_cl (show k + 1 < 2 ^ 31 by omega)]
      have e : (zz_put (zz_put (zz_put (zz_put τ 10 k (τ 10 (k + 1))) 11 k (τ 11 (k + 1))) 12 k (τ 12 (k + 1))) 13 k (τ 13 (k + 1))) 20 0 = nI n1 := by simp [px_at, h20]
      obtain ⟨τ', g1, g2, g3⟩ := ih (k + 1) _ (by omega) (by omega) e
      refine ⟨τ', ?_, fun v h1 h2 => ?_, fun v hv => ?_⟩
      · rw [← g1]
        simp [px_at]
      · rw [g2 v h1 h2, ← sh_step (τ v) (show k < n1 by omega)]
        congr 1
        have : v = 10 ∨ v = 11 ∨ v = 12 ∨ v = 13 := by omega
        rcases this with rfl | rfl | rfl | rfl <;> simp [px_at]
      · rw [g3 v hv]
        simp only [px_at]
        rw [if_neg (by omega), if_neg (by omega), if_neg (by omega), if_neg (by omega)]
theorem RBi.remove {c n1 : Nat} {pw q1 q2 q3 : Nat → Int32} (h : RBi c (n1 + 1) pw q1 q2 q3) {j : Nat} (hj : j ≤ n1) : RBi c n1 (sh pw j n1) (sh q1 j n1) (sh q2 j n1) (sh q3 j n1) := by
  have key : ∀ k, k < n1 → ∃ k', k' < n1 + 1 ∧ (k' = if j ≤ k then k + 1 else k) ∧ ∀ f : Nat → Int32, sh f j n1 k = f k' := by
    intro k hk
    refine ⟨if j ≤ k then k + 1 else k, by split <;> omega, rfl, fun f => ?_⟩
    unfold sh
    by_cases hjk : j ≤ k
    · rw [if_pos ⟨hjk, hk⟩, if_pos hjk]
    · rw [if_neg (fun h => hjk h.1), if_neg hjk]
  refine ⟨fun k hk => ?_, fun k k' a z t a' z' t' hk hk' hne hb hb' => ?_⟩
  · obtain ⟨k', h1, -, h2⟩ := key k hk
    obtain ⟨a, z, t, h3, h4, h5⟩ := h.1 k' h1
    refine ⟨a, z, t, ?_, h4, by rw [h2]; exact h5⟩
    unfold Bk
    rw [h2, h2, h2]
    exact h3
  · obtain ⟨m, h1, e1, h2⟩ := key k hk
    obtain ⟨m', h1', e1', h2'⟩ := key k' hk'
    unfold Bk at hb hb'
    rw [h2, h2, h2] at hb
    rw [h2', h2', h2'] at hb'
    refine h.2 m m' a z t a' z' t' h1 h1' ?_ hb hb'
    rw [e1, e1']
    split <;> split <;> omega
theorem sim_back {m : Nat} {σ τ : St} (hm : m < 2 ^ 30) (hC : Cor m σ τ) {n i : Nat} (h23 : τ 20 0 = nI n) (hi : i < n) (hn : n ≤ 10) :
    ∃ σ' τ' τa : St, zf_He_giveBack σ (nI i) = some σ' ∧ (zf_Mo_mark (zz_put (zz_put τ 22 0 (τ 22 0 + 1)) 13 i (τ 22 0 + 1)) (τ 11 i) (τ 12 i) 0) = some τa ∧ ((zf_Mo_resting τa).bind (fun r5 => if r5 ≤ (3 : Int32) then some τa else (zf_Mo_forget τa).bind (fun u6 => some u6))) = some τ' ∧ Cor (m + 1) σ' τ' ∧ FrS σ σ' ∧ FrM τ τ' := by
  obtain ⟨r1, r2, r3, ⟨⟨p0, p1, p2, p3, pn, pg, pc⟩, c, n', hc, qc, hn', qn, hI⟩, r5, r6⟩ := hC
  have hnn : n' = n := by
    rw [h23] at qn
    exact ((nI_eq (by omega) (by omega)).mp qn).symm
  subst hnn
  have hi10 : i < 10 := by omega
  have hcc : τ 22 0 + 1 = nI (c + 1) := by rw [qc, nI_1]
  obtain ⟨a, z, t, ⟨b1, b2, b3, b4, b5, b6, b7, b8⟩, ht, hw⟩ := hI.1 i hi
  have hr := rmz_le b6
  have hCa : Cor (m + 1) (zz_put (zz_put σ 25 0 (nI (c + 1))) 22 i (nI (c + 1))) (zz_put (zz_put τ 22 0 (nI (c + 1))) 13 i (nI (c + 1))) := by
    refine ⟨by simpa [px_at] using r1, by simpa [px_at] using r2, by simpa [px_at] using r3, ?_, by simpa [px_at] using r5, by simpa [px_at] using r6⟩
    refine ⟨⟨by simp [px_at, p0], by simp [px_at, p1], by simp [px_at, p2], by simp [px_at, p3], by simp [px_at, pn], by simp [px_at, pg], by simp [px_at, px_upd]⟩, c + 1, n', by omega, by simp [px_at, px_upd], hn', by simp [px_at, qn], ?_⟩
    have := hI.rest hi
    simpa [px_at] using this
  obtain ⟨σb, τb, g1, g2, g3, g4, g5, g6, g7⟩ := sim_mark hCa (A := a) (Z := z) (by omega) (y := 0) (Or.inl rfl)
  have f1 : FrS σ σb := (((FrS.refl σ).put (by omega)).put (by omega)).trans g4
  have f2 : FrM τ τb := (((FrM.refl τ).put (by omega)).put (by omega)).trans g5
  obtain ⟨v, v1, v2⟩ := rest_sim (by omega) g3.2.2.2.1
  have eS : zf_He_giveBack σ (nI i) = (if v ≤ (3 : Int32) then some σb else (zf_He_longestResting σb).bind (fun r3 => (zf_He_remove σb r3).bind (fun u4 => some u4))) := by
    unfold zf_He_giveBack
    have e25 : σ 25 0 + 1 = nI (c + 1) := by rw [pc, hcc]
    have e25' : (zz_put σ 25 0 (nI (c + 1))) 25 0 = nI (c + 1) := by simp [px_at, px_upd]
    have e19 : (zz_put (zz_put σ 25 0 (nI (c + 1))) 22 i (nI (c + 1))) 19 i = nI a := by simp [px_at, p1, b1]
    have e20 : (zz_put (zz_put σ 25 0 (nI (c + 1))) 22 i (nI (c + 1))) 20 i = nI z := by simp [px_at, p2, b2]
    simp only [px_ck hi10 (show 10 < 2 ^ 31 by omega), px_cl (show i < 2 ^ 31 by omega), e25, e25', e19, e20, g1, Option.bind_some, v1]
  rw [eS, hcc, b1, b2, g2]
  by_cases hv : v ≤ 3
  · refine ⟨σb, τb, τb, by rw [if_pos hv], rfl, by rw [v2, Option.bind_some, if_pos hv], g3, f1, f2⟩
  · obtain ⟨r1, r2, r3, ⟨⟨p0, p1, p2, p3, pn, pg, pc⟩, c2, n2, hc2, qc2, hn2, qn2, hI2⟩, r5, r6⟩ := id g3
    have h23b : τb 20 0 = nI n' := by rw [g7 20 (by omega) (by omega)]; simp [px_at, qn]
    have hnn : n2 = n' := by
      rw [h23b] at qn2
      exact ((nI_eq (by omega) (by omega)).mp qn2).symm
    subst hnn
    have h13 : τb 13 i = nI (c + 1) := by rw [g7 13 (by omega) (by omega)]; simp [px_at, px_upd]
    obtain ⟨y, y1, y2, y3⟩ := lr_loop (fun y_1 => some y_1) (fun s5 s5_1 => zf_Mo_forget_L60 (fun s7 => some s7) 300 (zz_put s5 20 0 ((s5 20 0) - (1 : Int32))) s5_1) hn2 (by rw [pn, qn2]) qn2 p3 (c := c2) (by omega) (fun k hk => by
      obtain ⟨a, z, t, hb, ht, -⟩ := hI2.1 k hk
      exact ⟨t, ht, hb.2.2.1⟩) 300 0 (-1) (by omega) (by omega) (Or.inl ⟨rfl, fun i hi => by omega⟩)
    rcases y3 with ⟨-, y3⟩ | ⟨j, hj, rfl⟩
    · have := y3 i hi
      rw [h13] at this
      exact absurd this (nI_ne0 (by omega) (by omega))
    · have y1' : zf_He_longestResting σb = some (nI j) := y1
      obtain ⟨n1, rfl⟩ : ∃ n1, n2 = n1 + 1 := ⟨n2 - 1, by omega⟩
      have em : nI (n1 + 1) - 1 = nI n1 := nI_pred n1
      obtain ⟨σc, s1, s2, s3⟩ := rem_loop (fun s2 => some s2) (show n1 ≤ 9 by omega) 300 j (zz_put σb 23 0 (nI n1)) (by omega) (by omega) (by simp [px_at, px_upd])
      obtain ⟨τc, t1, t2, t3⟩ := for_loop (fun s7 => some s7) (show n1 ≤ 9 by omega) 300 j (zz_put τb 20 0 (nI n1)) (by omega) (by omega) (by simp [px_at, px_upd])
      have s1' : zf_He_remove σb (nI j) = some σc := by
        unfold zf_He_remove
        rw [if_neg (px_ne1 (by omega)), pn, qn2, em]
        exact s1
      have t1' : zf_Mo_forget τb = some τc := by
        have y2' : zf_Mo_forget τb = _ := y2
        rw [y2', qn2, em]
        exact t1
      refine ⟨σc, τc, τb, by rw [if_neg hv, y1', Option.bind_some, s1', Option.bind_some], rfl, by rw [v2, Option.bind_some, if_neg hv, t1', Option.bind_some], ?_, ?_, ?_⟩
      · have hs : ∀ v, ¬ (18 ≤ v ∧ v ≤ 22) → v ≠ 23 → σc v = σb v := fun v h1 h2 => by rw [s3 v h1, px_at, if_neg h2]
        have hh : ∀ v, ¬ (10 ≤ v ∧ v ≤ 13) → v ≠ 20 → τc v = τb v := fun v h1 h2 => by rw [t3 v h1, px_at, if_neg h2]
        refine ⟨by simpa [hs, hh] using r1, by simpa [hs, hh] using r2, by simpa [hs, hh] using r3, ?_, by simpa [hs, hh] using r5, by simpa [hs, hh] using r6⟩
        have z18 : σc 18 = sh (σb 18) j n1 := by rw [s2 18 (by omega) (by omega)]; simp [px_at]
        have z19 : σc 19 = sh (σb 19) j n1 := by rw [s2 19 (by omega) (by omega)]; simp [px_at]
        have z20 : σc 20 = sh (σb 20) j n1 := by rw [s2 20 (by omega) (by omega)]; simp [px_at]
        have z21 : σc 21 = sh (σb 21) j n1 := by rw [s2 21 (by omega) (by omega)]; simp [px_at]
        have z22 : σc 22 = sh (σb 22) j n1 := by rw [s2 22 (by omega) (by omega)]; simp [px_at]
        have w10 : τc 10 = sh (τb 10) j n1 := by rw [t2 10 (by omega) (by omega)]; simp [px_at]
        have w11 : τc 11 = sh (τb 11) j n1 := by rw [t2 11 (by omega) (by omega)]; simp [px_at]
        have w12 : τc 12 = sh (τb 12) j n1 := by rw [t2 12 (by omega) (by omega)]; simp [px_at]
        have w13 : τc 13 = sh (τb 13) j n1 := by rw [t2 13 (by omega) (by omega)]; simp [px_at]
        have z23 : σc 23 0 = nI n1 := by rw [s3 23 (by omega)]; simp [px_at, px_upd]
        have w20 : τc 20 0 = nI n1 := by rw [t3 20 (by omega)]; simp [px_at, px_upd]
        refine ⟨⟨by rw [z18, w10, p0], by rw [z19, w11, p1], by rw [z20, w12, p2], by rw [z22, w13, p3], by rw [z23, w20], by rw [hs 24 (by omega) (by omega), hh 21 (by omega) (by omega), pg], by rw [hs 25 (by omega) (by omega), hh 22 (by omega) (by omega), pc]⟩, c2, n1, hc2, by rw [hh 22 (by omega) (by omega), qc2], by omega, w20, ?_⟩
        rw [z21, w11, w12, w13]
        exact hI2.remove (by omega)
      · exact fun v hv => by rw [s3 v (by omega), px_at, if_neg (by omega), f1 v hv]
      · exact fun v hv => by rw [t3 v (by omega), px_at, if_neg (by omega), f2 v hv]
theorem sim_give {m : Nat} {σ τ : St} (hm : m < 2 ^ 30) (hC : Cor m σ τ) {p : Nat} (hp : p < 32) (h29 : σ 29 0 = nI p) (h24 : τ 24 0 = nI p) (h30 : σ 30 0 = (nI p + 1) &&& 31) :
    ∃ σ' u, zf_Ma_give σ = some σ' ∧ zf_Mo_perform τ 18 (nI p) = some u ∧ OpOk (m + 1) σ τ σ' u ∧ u.1 = (nI p + 1) &&& 31 := by
  obtain ⟨d, a, b, hd, ha, hb, e1, e2, e3, i1, i2, i3, i4, i5⟩ := ins hC hp h29
  obtain ⟨σ1, τ1, g1, g2, g3, g4, g5, g6⟩ := sim_nu0 hC hp h29 h24 ha e2
  have h29' : σ1 29 0 = nI p := by rw [g4 29 (by omega), h29]
  have h24' : τ1 24 0 = nI p := by rw [g5 24 (by omega), h24]
  obtain ⟨d', a', b', hd', ha', hb', e1', e2', e3', i1', i2', i3', i4', i5'⟩ := ins g3 hp h29'
  have : a' = a := by
    rw [g5 2 (by omega), e2] at e2'
    exact ((nI_eq (by omega) (by omega)).mp e2').symm
  subst this
  obtain ⟨ka, hka, ea, va, wa, ra⟩ := rg g3 ha'
  rw [g6] at va
  have hgive : ∃ σ' τ', (zf_He_indexOfAddress σ1 (τ 8 a')).bind (fun r4 => if r4 = (-1 : Int32) then (zf_Fi_note σ1 (5 : Int32) (σ1 29 0) (τ 8 a')).bind (fun u12 => some u12) else (zf_He_isLive σ1 r4).bind (fun r5 => if r5 = 0 then (zf_Fi_note σ1 (6 : Int32) (σ1 29 0) (τ 8 a')).bind (fun u8 => some u8) else (zf_He_giveBack σ1 r4).bind (fun u6 => some u6))) = some σ' ∧
      zf_Mo_give τ1 (τ 8 a') = some τ' ∧ Cor (m + 1) σ' τ' ∧ FrS σ1 σ' ∧ FrM τ1 τ' := by
    obtain ⟨r1, r2, r3, ⟨⟨p0, p1, p2, p3, pn, pg, pc⟩, c, n, hc, qc, hn, qn, hI⟩, r5, r6⟩ := id g3
    unfold zf_He_indexOfAddress zf_Mo_give
    rcases find_loop (some (-1)) _ hn (by rw [pn, qn]) qn p1 (τ 8 a') 300 0 (by omega) (by omega) with ⟨i, hi, hx, k1, k2⟩ | ⟨k1, k2⟩
    · have hi10 : i < 10 := by omega
      obtain ⟨a2, z, t, hbk, ht, hw⟩ := hI.1 i hi
      rw [show (0 : Int32) = nI 0 from rfl, k1, k2, Option.bind_some, if_neg (px_ne1 (by omega)), px_live σ1 hi10, Option.bind_some, p3, hbk.2.2.1, qn, if_neg (show ¬ nI i = nI n from fun e => by have := (nI_eq (by omega) (by omega)).mp e; omega)]
      simp only [show (nI 0 : Int32) = 0 from rfl, px_ck hi10 (show 10 < 2 ^ 31 by omega), px_cl (show i < 2 ^ 31 by omega), hbk.2.2.1]
      by_cases ht0 : t = 0
      · have z1 : nI t = 0 := (px_eq0 (by omega)).mpr ht0
        have z2 : nI t ≤ 0 := (px_le0 (by omega)).mpr ht0
        rw [if_pos z1, if_neg (show ¬ (1 : Int32) = 0 by decide), if_pos z2]
        obtain ⟨σ', τ', τa, s1, s2, s3, s4, s5, s6⟩ := sim_back hm g3 qn hi hn
        refine ⟨σ', τ', by rw [s1, Option.bind_some], ?_, s4, s5, s6⟩
        have ex : (zz_put τ1 22 0 (τ1 22 0 + 1)) 22 0 = τ1 22 0 + 1 := by simp [px_at, px_upd]
        have ey : (zz_put (zz_put τ1 22 0 (τ1 22 0 + 1)) 13 i (τ1 22 0 + 1)) 12 i = τ1 12 i := by simp [px_at]
        rw [← hx]
        simp only [ex, ey, s2, Option.bind_some]
        exact s3
      · have z1 : ¬ nI t = 0 := fun e => ht0 ((px_eq0 (by omega)).mp e)
        have z2 : ¬ nI t ≤ 0 := fun e => ht0 ((px_le0 (by omega)).mp e)
        rw [if_neg z1, if_pos rfl, if_neg z2]
        obtain ⟨σ', τ', s1, s2, s3, s4⟩ := sim_note g3 6 (τ 8 a')
        rw [h29', ← h24', s1, s2]
        exact ⟨σ', τ', rfl, rfl, s3.mono (by omega), s4⟩
    · rw [show (0 : Int32) = nI 0 from rfl, k1, k2, Option.bind_some, if_pos rfl, qn, if_pos rfl]
      obtain ⟨σ', τ', s1, s2, s3, s4⟩ := sim_note g3 5 (τ 8 a')
      rw [h29', ← h24', s1, s2]
      exact ⟨σ', τ', rfl, rfl, s3.mono (by omega), s4⟩
  obtain ⟨σ', τ', s1, s2, s3, s4, s5⟩ := hgive
  refine ⟨σ', ((nI p + 1) &&& 31, τ'), ?_, ?_, ⟨s3, fun v hv _ => by rw [s4 v hv, g4 v hv], g5.trans s5, ?_, and31 _⟩, rfl⟩
  · unfold zf_Ma_give
    rw [g1, Option.bind_some, i2', Option.bind_some, va, Option.bind_some, s1]
  · have := perf_0 (o := 18) hp (Or.inr (Or.inr rfl)) ha e2
    refine this.trans ?_
    rw [g2, Option.bind_some, zf_Mo_perform_b192, if_neg (show ¬ (nI 18 : Int32) = 15 by decide), if_neg (show ¬ (nI 18 : Int32) = 16 by decide), if_neg (show ¬ (nI 18 : Int32) = 17 by decide), if_pos (show (nI 18 : Int32) = 18 from rfl), s2, Option.bind_some]
  · rw [s4 30 (by omega), g4 30 (by omega), h30]
