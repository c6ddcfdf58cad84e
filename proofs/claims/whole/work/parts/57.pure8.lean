/-! the instructions that use memory -/
theorem fc_loop (kx : Option Int32) (kx' : St → Option St) (σ τ : St) (h6 : σ 1 = τ 6) (ho : ∀ i, τ 6 i = 0 ∨ τ 6 i = 1) {A w : Nat} (hw : A + w ≤ 256) (x1 : Int32) :
    ∀ f i : Nat, i ≤ w → w - i < f → (∃ i' : Nat, i' < w ∧ zf_Me_firstClosed_L2 σ kx f (nI A) (nI w) (nI i) = some (nI (A + i')) ∧ zf_Mo_closed_L3 kx' f τ x1 (nI A) (nI w) (nI i) = (zf_Mo_note τ x1 (nI (A + i'))).bind (fun u1 => some u1)) ∨
      (zf_Me_firstClosed_L2 σ kx f (nI A) (nI w) (nI i) = kx ∧ zf_Mo_closed_L3 kx' f τ x1 (nI A) (nI w) (nI i) = kx' τ) := by
  intro f
  induction f with
  | zero => intro i h1 h2; omega
  | succ f ih =>
    intro i hi hf
    rw [zf_Me_firstClosed_L2, zf_Mo_closed_L3]
    by_cases h : i = w
    · subst h
      rw [if_pos (nI_le (Nat.le_refl _) (by omega)), if_pos (nI_le (Nat.le_refl _) (by omega))]
      exact Or.inr ⟨rfl, rfl⟩
    · have hlt : A + i < 256 := by omega
      simp only [if_neg (nI_ge (show i < w by omega) (show w < 2 ^ 31 by omega)), nI_add, px_ck hlt (show 256 < 2 ^ 31 by omega), px_cl (show A + i < 2 ^ 31 by omega), nI_1, h6]
      rcases ho (A + i) with e | e
      · rw [if_pos e, if_neg (by rw [e]; decide)]
        exact Or.inl ⟨i, by omega, rfl, rfl⟩
      · rw [if_neg (by rw [e]; decide), if_pos e]
        exact ih (i + 1) (by omega) (by omega)
theorem sim_closed {m : Nat} {σ τ : St} (hC : Cor m σ τ) (h24 : σ 29 0 = τ 24 0) {A w : Nat} (hw : A + w ≤ 256) (x1 : Int32) :
    ∃ σ' τ' : St, zf_Ma_noteClosed σ x1 (nI A) (nI w) = some σ' ∧ zf_Mo_closed τ x1 (nI A) (nI w) = some τ' ∧ Cor m σ' τ' ∧ FrS σ σ' ∧ FrM τ τ' := by
  have hM := hC.2.1
  unfold zf_Ma_noteClosed zf_Me_firstClosed zf_Mo_closed
  rcases fc_loop (some (-1)) (fun s5 => some s5) σ τ hM.1.2.1 hM.2.1 hw x1 300 0 (by omega) (by omega) with ⟨i, hi, e1, e2⟩ | ⟨e1, e2⟩
  · obtain ⟨σ', τ', g1, g2, g3⟩ := sim_note hC x1 (nI (A + i))
    refine ⟨σ', τ', ?_, ?_, g3⟩
    · rw [show (0 : Int32) = nI 0 from rfl, e1, Option.bind_some, if_neg (px_ne1 (by omega)), h24, g1, Option.bind_some]
    · rw [show (0 : Int32) = nI 0 from rfl, e2, g2, Option.bind_some]
  · refine ⟨σ, τ, ?_, ?_, hC, FrS.refl σ, FrM.refl τ⟩
    · rw [show (0 : Int32) = nI 0 from rfl, e1, Option.bind_some, if_pos rfl]
    · rw [show (0 : Int32) = nI 0 from rfl, e2]
theorem val_step (σ : St) (kx : Int32 → Option Int32) (f : Nat) {A w i : Nat} (acc : Int32) (hi : i < w) (hw : A + w ≤ 256) : zf_Me_value_L5 σ kx (f + 1) (nI A) (nI w) acc (nI i) = zf_Me_value_L5 σ kx f (nI A) (nI w) (acc ||| (σ 0 (A + i) <<< ((8 * nI i) &&& 31))) (nI (i + 1)) := by
  rw [zf_Me_value_L5, if_neg (nI_ge hi (by omega)), nI_add, px_ck (by omega) (by omega), px_cl (by omega), nI_1]
theorem val_end (σ : St) (kx : Int32 → Option Int32) (f : Nat) {A w : Nat} (acc : Int32) (hw : A + w ≤ 256) : zf_Me_value_L5 σ kx (f + 1) (nI A) (nI w) acc (nI w) = kx acc := by
  rw [zf_Me_value_L5, if_pos (nI_le (Nat.le_refl _) (by omega))]
theorem kn_step (σ : St) (kx : Int32 → Option Int32) (f : Nat) {A w i : Nat} (acc : Int32) (hi : i < w) (hw : A + w ≤ 256) : zf_Me_known_L5 σ kx (f + 1) (nI A) (nI w) acc (nI i) = zf_Me_known_L5 σ kx f (nI A) (nI w) (if σ 2 (A + i) = 0 then acc else acc ||| ((1 : Int32) <<< (nI i &&& 31))) (nI (i + 1)) := by
  rw [zf_Me_known_L5, if_neg (nI_ge hi (by omega)), nI_add, px_ck (by omega) (by omega), px_cl (by omega), nI_1]
  split <;> rfl
theorem kn_end (σ : St) (kx : Int32 → Option Int32) (f : Nat) {A w : Nat} (acc : Int32) (hw : A + w ≤ 256) : zf_Me_known_L5 σ kx (f + 1) (nI A) (nI w) acc (nI w) = kx acc := by
  rw [zf_Me_known_L5, if_pos (nI_le (Nat.le_refl _) (by omega))]
theorem val4 {σ τ : St} (h : σ 0 = τ 5) {A : Nat} (hw : A + 4 ≤ 256) : ∃ v, zf_Me_value σ (nI A) 4 = some v ∧ zf_Mo_word τ (nI A) = some v := by
  have e : zf_Me_value σ (nI A) 4 = _ := (val_step σ (fun y_3 => some y_3) 299 0 (show 0 < 4 by omega) hw).trans ((val_step σ _ 298 _ (show 1 < 4 by omega) hw).trans ((val_step σ _ 297 _ (show 2 < 4 by omega) hw).trans ((val_step σ _ 296 _ (show 3 < 4 by omega) hw).trans (val_end σ _ 295 _ hw))))
  refine ⟨_, e, ?_⟩
  unfold zf_Mo_word
  rw [show (1 : Int32) = nI 1 from rfl, show (2 : Int32) = nI 2 from rfl, show (3 : Int32) = nI 3 from rfl, nI_add, nI_add, nI_add, px_ck (by omega) (by omega), px_ck (by omega) (by omega), px_ck (by omega) (by omega), px_ck (by omega) (by omega), px_cl (by omega), px_cl (by omega), px_cl (by omega), px_cl (by omega), h]
  rw [show (8 * nI 0 : Int32) = 8 * 0 from rfl, px_or0, show ((8 : Int32) * nI 1) = 8 from by decide, show ((8 : Int32) * nI 2) = 16 from by decide, show ((8 : Int32) * nI 3) = 24 from by decide]
  rfl
theorem kn4 {σ τ : St} (h : σ 2 = τ 7) (h01 : ∀ i, τ 7 i = 0 ∨ τ 7 i = 1) {A : Nat} (hw : A + 4 ≤ 256) : ∃ k : Nat, k ≤ 15 ∧ zf_Me_known σ (nI A) 4 = some (nI k) ∧ zf_Mo_wordKnown τ (nI A) = some (nI k) := by
  have e : zf_Me_known σ (nI A) 4 = _ := (kn_step σ (fun y_3 => some y_3) 299 0 (show 0 < 4 by omega) hw).trans ((kn_step σ _ 298 _ (show 1 < 4 by omega) hw).trans ((kn_step σ _ 297 _ (show 2 < 4 by omega) hw).trans ((kn_step σ _ 296 _ (show 3 < 4 by omega) hw).trans (kn_end σ _ 295 _ hw))))
  rw [e]
  unfold zf_Mo_wordKnown
  simp only [show (1 : Int32) = nI 1 from rfl, show (2 : Int32) = nI 2 from rfl, show (3 : Int32) = nI 3 from rfl, nI_add, px_ck (show A < 256 by omega) (show 256 < 2 ^ 31 by omega), px_ck (show A + 1 < 256 by omega) (show 256 < 2 ^ 31 by omega), px_ck (show A + 2 < 256 by omega) (show 256 < 2 ^ 31 by omega), px_ck (show A + 3 < 256 by omega) (show 256 < 2 ^ 31 by omega), px_cl (show A < 2 ^ 31 by omega), px_cl (show A + 1 < 2 ^ 31 by omega), px_cl (show A + 2 < 2 ^ 31 by omega), px_cl (show A + 3 < 2 ^ 31 by omega), h, Nat.add_zero]
  have key : ∀ a b c d : Fin 2, ∃ k : Nat, k < 16 ∧ (some (if nI d.val = 0 then if nI c.val = 0 then if nI b.val = 0 then if nI a.val = 0 then (0 : Int32) else 0 ||| nI 1 <<< (nI 0 &&& 31) else (if nI a.val = 0 then 0 else 0 ||| nI 1 <<< (nI 0 &&& 31)) ||| nI 1 <<< (nI 1 &&& 31) else (if nI b.val = 0 then if nI a.val = 0 then 0 else 0 ||| nI 1 <<< (nI 0 &&& 31) else (if nI a.val = 0 then 0 else 0 ||| nI 1 <<< (nI 0 &&& 31)) ||| nI 1 <<< (nI 1 &&& 31)) ||| nI 1 <<< (nI 2 &&& 31)
      else (if nI c.val = 0 then if nI b.val = 0 then if nI a.val = 0 then (0 : Int32) else 0 ||| nI 1 <<< (nI 0 &&& 31) else (if nI a.val = 0 then 0 else 0 ||| nI 1 <<< (nI 0 &&& 31)) ||| nI 1 <<< (nI 1 &&& 31) else (if nI b.val = 0 then if nI a.val = 0 then 0 else 0 ||| nI 1 <<< (nI 0 &&& 31) else (if nI a.val = 0 then 0 else 0 ||| nI 1 <<< (nI 0 &&& 31)) ||| nI 1 <<< (nI 1 &&& 31)) ||| nI 1 <<< (nI 2 &&& 31)) ||| nI 1 <<< (nI 3 &&& 31))) = some (nI k) ∧
      some (((nI a.val ||| nI b.val <<< (nI 1 &&& 31)) ||| nI c.val <<< (nI 2 &&& 31)) ||| nI d.val <<< (nI 3 &&& 31)) = some (nI k) := by decide
  have fin : ∀ i, ∃ a : Fin 2, τ 7 i = nI a.val := fun i => by
    rcases h01 i with h | h
    · exact ⟨0, h⟩
    · exact ⟨1, h⟩
  obtain ⟨a, ea⟩ := fin A
  obtain ⟨b, eb⟩ := fin (A + 1)
  obtain ⟨c, ec⟩ := fin (A + 2)
  obtain ⟨d, ed⟩ := fin (A + 3)
  obtain ⟨k, hk, k1, k2⟩ := key a b c d
  refine ⟨k, by omega, ?_, ?_⟩
  · rw [ea, eb, ec, ed]; exact k1
  · rw [ea, eb, ec, ed]; exact k2
theorem bit01 (x : Int32) : x &&& 1 = 0 ∨ x &&& 1 = 1 := by
  obtain ⟨j, hj, e⟩ := pk_andE x (m := 1) 1 (by decide)
  rw [e]
  have : j = 0 ∨ j = 1 := by omega
  rcases this with rfl | rfl
  · exact Or.inl rfl
  · exact Or.inr rfl
theorem store_loop (kx : St → Option St) (kx' : St → Option (Int32 × St)) {p A w b o : Nat} (hp : p < 32) (hb : b ≤ 7) (hw : A + w ≤ 256) (ho : ¬ nI o ≤ 10) (v kn : Int32) :
    ∀ (f i : Nat) (σ τ : St), i ≤ w → w - i < f → RM (σ 0) (σ 1) (σ 2) (τ 5) (τ 6) (τ 7) → τ 3 p = nI b → τ 8 b = v → τ 9 b = kn →
    ∃ σ' τ' : St, zf_Me_put_L3 kx f σ (nI A) (nI w) v kn (nI i) = kx σ' ∧ zf_Mo_access_L155 kx' f τ (nI o) (nI p) (nI A) (nI w) (nI i) = kx' τ' ∧ RM (σ' 0) (σ' 1) (σ' 2) (τ' 5) (τ' 6) (τ' 7) ∧ (∀ v, v ≠ 0 → v ≠ 2 → σ' v = σ v) ∧ ∀ v, v ≠ 5 → v ≠ 7 → τ' v = τ v := by
  intro f
  induction f with
  | zero => intro i σ τ h1 h2; omega
  | succ f ih =>
    intro i σ τ hi hf hM h3 h8 h9
    rw [zf_Me_put_L3, zf_Mo_access_L155]
    by_cases h : i = w
    · subst h
      rw [if_pos (nI_le (Nat.le_refl _) (by omega)), if_pos (nI_le (Nat.le_refl _) (by omega))]
      exact ⟨σ, τ, rfl, rfl, hM, fun _ _ _ => rfl, fun _ _ _ => rfl⟩
    · rw [if_neg (nI_ge (show i < w by omega) (by omega)), if_neg (nI_ge (show i < w by omega) (by omega)), if_neg ho]
      have hlt : A + i < 256 := by omega
      have z3 : zz_put τ 5 (A + i) (v >>> ((8 * nI i) &&& 31) &&& 255) 3 p = nI b := by simp [px_at, h3]
      have z9 : zz_put τ 5 (A + i) (v >>> ((8 * nI i) &&& 31) &&& 255) 9 b = kn := by simp [px_at, h9]
      have hbb : b < 8 := by omega
      simp only [nI_add, px_ck hlt (show 256 < 2 ^ 31 by omega), px_cl (show A + i < 2 ^ 31 by omega), nI_1, px_ck hp (show 32 < 2 ^ 31 by omega), px_cl (show p < 2 ^ 31 by omega), h3, px_ck hbb (show 8 < 2 ^ 31 by omega), px_cl (show b < 2 ^ 31 by omega), h8, z3, z9, px_n0, px_n1]
      have hm := fun y hy => hM.put (A + i) (v >>> ((8 * nI i) &&& 31) &&& 255) (y := y) hy
      rcases bit01 (kn >>> (nI i &&& 31)) with e | e
      · rw [e, if_neg (by decide)]
        obtain ⟨σ', τ', g1, g2, g3, g4, g5⟩ := ih (i + 1) (zz_put (zz_put σ 0 (A + i) (v >>> ((8 * nI i) &&& 31) &&& 255)) 2 (A + i) 0) (zz_put (zz_put τ 5 (A + i) (v >>> ((8 * nI i) &&& 31) &&& 255)) 7 (A + i) 0) (by omega) (by omega) (by simpa [px_at] using hm 0 (Or.inl rfl)) (by simp [px_at, h3]) (by simp [px_at, h8]) (by simp [px_at, h9])
        exact ⟨σ', τ', g1, g2, g3, fun w h0 h2 => by rw [g4 w h0 h2]; simp [px_at, h0, h2], fun w h0 h2 => by rw [g5 w h0 h2]; simp [px_at, h0, h2]⟩
      · rw [e, if_pos rfl]
        obtain ⟨σ', τ', g1, g2, g3, g4, g5⟩ := ih (i + 1) (zz_put (zz_put σ 0 (A + i) (v >>> ((8 * nI i) &&& 31) &&& 255)) 2 (A + i) 1) (zz_put (zz_put τ 5 (A + i) (v >>> ((8 * nI i) &&& 31) &&& 255)) 7 (A + i) 1) (by omega) (by omega) (by simpa [px_at] using hm 1 (Or.inr rfl)) (by simp [px_at, h3]) (by simp [px_at, h8]) (by simp [px_at, h9])
        exact ⟨σ', τ', g1, g2, g3, fun w h0 h2 => by rw [g4 w h0 h2]; simp [px_at, h0, h2], fun w h0 h2 => by rw [g5 w h0 h2]; simp [px_at, h0, h2]⟩
theorem Cor.mem {m : Nat} {σ τ σ' τ' : St} (hC : Cor m σ τ) (hM : RM (σ' 0) (σ' 1) (σ' 2) (τ' 5) (τ' 6) (τ' 7)) (hs : ∀ v, v ≠ 0 → v ≠ 1 → v ≠ 2 → σ' v = σ v) (ht : ∀ v, v ≠ 5 → v ≠ 6 → v ≠ 7 → τ' v = τ v) : Cor m σ' τ' ∧ FrS σ σ' ∧ FrM τ τ' := by
  obtain ⟨r1, r2, r3, r4, r5, r6⟩ := hC
  refine ⟨⟨?_, hM, ?_, ?_, ?_, ?_⟩, fun v hv => hs v (by omega) (by omega) (by omega), fun v hv => ht v (by omega) (by omega) (by omega)⟩
  · simpa [hs, ht] using r1
  · simpa [hs, ht] using r3
  · simpa [hs, ht] using r4
  · simpa [hs, ht] using r5
  · simpa [hs, ht] using r6
theorem sim_st {m : Nat} {σ τ : St} (hC : Cor m σ τ) {p o A w : Nat} (hp : p < 32) (h29 : σ 29 0 = nI p) (h24 : τ 24 0 = nI p) (hw : A + w ≤ 256) (ho : ¬ nI o ≤ 10) :
    ∃ σ' τ' : St, zf_Ma_store σ (nI A) (nI w) = some σ' ∧ (zf_Mo_closed τ 2 (nI A) (nI w)).bind (fun u2 => zf_Mo_access_b152 u2 (nI o) (nI p) (nI A) (nI w)) = some (1, τ') ∧ Cor m σ' τ' ∧ FrS σ σ' ∧ FrM τ τ' := by
  obtain ⟨σ1, τ1, g1, g2, g3, g4, g5⟩ := sim_closed hC (h29.trans h24.symm) hw 2
  have h29' : σ1 29 0 = nI p := by rw [g4 29 (by omega), h29]
  obtain ⟨d, a, b, hd, ha, hb, e1, e2, e3, i1, i2, i3, i4, i5⟩ := ins g3 hp h29'
  obtain ⟨kb, hkb, eb, vb, wb, -⟩ := rg g3 hb
  obtain ⟨σ', τ', s1, s2, s3, s4, s5⟩ := store_loop (fun s3 => some s3) (fun s5 => zz_kz (1 : Int32) (some ((1 : Int32), s5))) hp hb hw ho (τ1 8 b) (nI kb) 300 0 σ1 τ1 (by omega) (by omega) g3.2.1 e3 rfl eb
  obtain ⟨c1, c2, c3⟩ := g3.mem s3 (fun v h0 _ h2 => s4 v h0 h2) (fun v h0 _ h2 => s5 v h0 h2)
  refine ⟨σ', τ', ?_, ?_, c1, g4.trans c2, g5.trans c3⟩
  · unfold zf_Ma_store
    have s1' : zf_Me_put σ1 (nI A) (nI w) (τ1 8 b) (nI kb) = some σ' := s1
    simp [g1, i3, vb, wb, s1']
  · have s2' : zf_Mo_access_b152 τ1 (nI o) (nI p) (nI A) (nI w) = some (1, τ') := by
      refine Eq.trans s2 ?_
      rw [px_k1]
    rw [g2, Option.bind_some, s2']
theorem acc_end {τ : St} {o w : Nat} (x2 x3 : Int32) (hw : 1 ≤ w) (hw' : w ≤ 4) (ho : nI o ≤ 10) : zf_Mo_access_b152 τ (nI o) x2 x3 (nI w) = some (1, τ) := by
  unfold zf_Mo_access_b152
  rw [show (300 : Nat) = 299 + 1 from rfl, zf_Mo_access_L155, if_neg (show ¬ nI w ≤ 0 from nI_nle (by omega) (by omega)), if_pos ho, px_k1]
theorem sim_ld4 {m : Nat} {σ τ : St} (hC : Cor m σ τ) {p A : Nat} (hp : p < 32) (h29 : σ 29 0 = nI p) (h24 : τ 24 0 = nI p) (hw : A + 4 ≤ 256) :
    ∃ σ' τ1 τ' v k, zf_Ma_load σ (nI A) 4 = some σ' ∧ zf_Mo_closed τ 1 (nI A) 4 = some τ1 ∧ zf_Mo_word τ1 (nI A) = some v ∧ zf_Mo_wordKnown τ1 (nI A) = some k ∧ zf_Mo_put τ1 (τ1 1 p) v k = some τ' ∧ Cor m σ' τ' ∧ FrS σ σ' ∧ FrM τ τ' := by
  obtain ⟨σ1, τ1, g1, g2, g3, g4, g5⟩ := sim_closed hC (h29.trans h24.symm) (w := 4) hw 1
  have h29' : σ1 29 0 = nI p := by rw [g4 29 (by omega), h29]
  obtain ⟨v, v1, v2⟩ := val4 g3.2.1.1.1 hw
  obtain ⟨k, hk, k1, k2⟩ := kn4 g3.2.1.1.2.2 g3.2.1.2.2 hw
  obtain ⟨σ', τ', a1, a2, a3, a4, a5⟩ := sim_ans g3 hp h29' v hk
  refine ⟨σ', τ1, τ', v, nI k, ?_, g2, v2, k2, a2, a3, g4.trans a4, g5.trans a5⟩
  have g1' : zf_Ma_noteClosed σ 1 (nI A) 4 = some σ1 := g1
  unfold zf_Ma_load
  simp [g1', v1, k1, a1]
theorem sim_ld1 {m : Nat} {σ τ : St} (hC : Cor m σ τ) {p A : Nat} (hp : p < 32) (h29 : σ 29 0 = nI p) (h24 : τ 24 0 = nI p) (hw : A + 1 ≤ 256) :
    ∃ σ' τ1 τ', zf_Ma_load σ (nI A) 1 = some σ' ∧ zf_Mo_closed τ 1 (nI A) 1 = some τ1 ∧ zf_Mo_put τ1 (τ1 1 p) ((τ1 5 A).toInt8.toInt32) (τ1 7 A * 15) = some τ' ∧ Cor m σ' τ' ∧ FrS σ σ' ∧ FrM τ τ' := by
  obtain ⟨σ1, τ1, g1, g2, g3, g4, g5⟩ := sim_closed hC (h29.trans h24.symm) (w := 1) hw 1
  have h29' : σ1 29 0 = nI p := by rw [g4 29 (by omega), h29]
  have g1' : zf_Ma_noteClosed σ 1 (nI A) 1 = some σ1 := g1
  have hm := g3.2.1
  have v1 := px_v1 σ1 (show A < 256 by omega)
  have h01 := hm.2.2 A
  have k1 := px_kn1 σ1 (show A < 256 by omega) (by rw [hm.1.2.2]; exact h01)
  rw [hm.1.1] at v1
  rw [hm.1.2.2] at k1
  rcases h01 with h | h
  · obtain ⟨σ', τ', a1, a2, a3, a4, a5⟩ := sim_ans g3 hp h29' ((τ1 5 A).toInt8.toInt32) (k := 0) (by omega)
    have a1' : zf_Ma_answer σ1 ((τ1 5 A).toInt8.toInt32) 0 = some σ' := a1
    refine ⟨σ', τ1, τ', ?_, g2, ?_, a3, g4.trans a4, g5.trans a5⟩
    · unfold zf_Ma_load
      simp [g1', v1, k1, h, a1']
    · rw [h, show (0 * 15 : Int32) = nI 0 from by decide, a2]
  · obtain ⟨σ', τ', a1, a2, a3, a4, a5⟩ := sim_ans g3 hp h29' ((τ1 5 A).toInt8.toInt32) (k := 15) (by omega)
    have a1' : zf_Ma_answer σ1 ((τ1 5 A).toInt8.toInt32) 15 = some σ' := a1
    refine ⟨σ', τ1, τ', ?_, g2, ?_, a3, g4.trans a4, g5.trans a5⟩
    · unfold zf_Ma_load
      simp [g1', v1, k1, h, a1']
    · rw [h, show (1 * 15 : Int32) = nI 15 from by decide, a2]
/-- both end alike: done, or faulted -/
def MemOk (m : Nat) (σ τ σ' : St) (u : Int32 × St) : Prop := (u.1 = 1 ∧ Cor m σ' u.2 ∧ FrS σ σ' ∧ FrM τ u.2) ∨ (u.1 = 0 ∧ ∃ σ1, σ' = zz_put (zz_put σ1 32 0 1) 31 0 1 ∧ Cor m σ1 u.2 ∧ FrS σ σ1 ∧ FrM τ u.2)
theorem has4 (x : Int32) : zf_Me_has x 4 = some (chk x 252) ∧ zf_Mo_in x 0 (256 - 4) = some (chk x 252) := by
  constructor
  · unfold zf_Me_has chk
    rw [px_k0, px_k1, show (256 : Int32) - 4 = nI 252 from by decide]
    split
    · rfl
    · split <;> rfl
  · rw [show (256 : Int32) - 4 = nI 252 from by decide]
    exact chk_in0 x 252
theorem has1 (x : Int32) : zf_Me_has x 1 = some (chk x 255) ∧ zf_Mo_in x 0 (256 - 1) = some (chk x 255) := by
  constructor
  · exact chk_me x
  · rw [show (256 : Int32) - 1 = nI 255 from by decide]
    exact chk_in0 x 255
theorem sim_83 {m : Nat} {σ τ : St} (hC : Cor m σ τ) {p o w : Nat} (hp : p < 32) (h29 : σ 29 0 = nI p) (h24 : τ 24 0 = nI p) (how : (o = 9 ∧ w = 4) ∨ (o = 11 ∧ w = 4) ∨ (o = 10 ∧ w = 1) ∨ (o = 12 ∧ w = 1)) (x : Int32) :
    ∃ σ' u, zf_Ma_useMemory_b83 σ (nI o) (nI w) x = some σ' ∧ zf_Mo_access_b60 τ (nI o) (nI p) x (nI w) = some u ∧ MemOk m σ τ σ' u := by
  have hh : ∃ c, zf_Me_has x (nI w) = some c ∧ zf_Mo_in x 0 (256 - nI w) = some c ∧ (c = 0 ∨ (c = 1 ∧ ∃ A, A + w ≤ 256 ∧ x = nI A)) := by
    have hw : w = 4 ∨ w = 1 := by omega
    rcases hw with rfl | rfl
    · refine ⟨_, (has4 x).1, (has4 x).2, ?_⟩
      rcases chk01 x 252 with h | h
      · exact Or.inl h
      · obtain ⟨A, hA, e⟩ := chk_in (by omega) h
        exact Or.inr ⟨h, A, by omega, e⟩
    · refine ⟨_, (has1 x).1, (has1 x).2, ?_⟩
      rcases chk01 x 255 with h | h
      · exact Or.inl h
      · obtain ⟨A, hA, e⟩ := chk_in (by omega) h
        exact Or.inr ⟨h, A, by omega, e⟩
  obtain ⟨c, c1, c2, c3⟩ := hh
  unfold zf_Ma_useMemory_b83 zf_Mo_access_b60
  rw [c1, c2, Option.bind_some, Option.bind_some]
  rcases c3 with rfl | ⟨rfl, A, hA, rfl⟩
  · rw [if_pos rfl, if_pos rfl, px_k0, px_k1, px_k1]
    exact ⟨_, _, rfl, rfl, Or.inr ⟨rfl, σ, rfl, hC, FrS.refl σ, FrM.refl τ⟩⟩
  · rw [if_neg (show ¬ (1 : Int32) = 0 by decide), if_neg (show ¬ (1 : Int32) = 0 by decide)]
    rcases how with ⟨rfl, rfl⟩ | ⟨rfl, rfl⟩ | ⟨rfl, rfl⟩ | ⟨rfl, rfl⟩
    · obtain ⟨σ', τ1, τ', v, k, a1, a2, a3, a4, a5, a6⟩ := sim_ld4 hC hp h29 h24 hA
      rw [show (nI 4 : Int32) = 4 from rfl, show (nI 9 : Int32) = 9 from rfl, if_neg (show ¬ (10 : Int32) < 9 by decide), if_neg (show ¬ (11 : Int32) ≤ 9 by decide), a1, a2, Option.bind_some, Option.bind_some, if_pos rfl, px_ck hp (by omega), a3, a4, Option.bind_some, Option.bind_some, px_cl (by omega), a5, Option.bind_some]
      refine ⟨σ', (1, τ'), rfl, ?_, Or.inl ⟨rfl, a6⟩⟩
      unfold zf_Mo_access_b120
      rw [if_neg (by decide)]
      exact acc_end (o := 9) (w := 4) _ _ (by omega) (by omega) (by decide)
    · obtain ⟨σ', τ', a1, a2, a3⟩ := sim_st (o := 11) hC hp h29 h24 hA (by decide)
      rw [if_pos (show (10 : Int32) < nI 11 by decide), a1, Option.bind_some, if_pos (show (11 : Int32) ≤ nI 11 by decide)]
      refine ⟨σ', (1, τ'), rfl, ?_, Or.inl ⟨rfl, a3⟩⟩
      rw [← a2]
      refine congrArg (Option.bind _) (funext fun u2 => ?_)
      rw [if_neg (show ¬ (nI 11 : Int32) = 9 by decide), zf_Mo_access_b120, if_neg (show ¬ (nI 11 : Int32) = 10 by decide)]
    · obtain ⟨σ', τ1, τ', a1, a2, a3, a4⟩ := sim_ld1 hC hp h29 h24 hA
      rw [show (nI 1 : Int32) = 1 from rfl, show (nI 10 : Int32) = 10 from rfl, if_neg (show ¬ (10 : Int32) < 10 by decide), if_neg (show ¬ (11 : Int32) ≤ 10 by decide), a1, a2, Option.bind_some, Option.bind_some, if_neg (show ¬ (10 : Int32) = 9 by decide)]
      refine ⟨σ', (1, τ'), rfl, ?_, Or.inl ⟨rfl, a4⟩⟩
      unfold zf_Mo_access_b120
      rw [if_pos rfl, px_ck hp (by omega), px_ck (by omega) (by omega), px_ck (by omega) (by omega), px_cl (by omega), px_cl (by omega), a3, Option.bind_some]
      exact acc_end (o := 10) (w := 1) _ _ (by omega) (by omega) (by decide)
    · obtain ⟨σ', τ', a1, a2, a3⟩ := sim_st (o := 12) hC hp h29 h24 hA (by decide)
      rw [if_pos (show (10 : Int32) < nI 12 by decide), a1, Option.bind_some, if_pos (show (11 : Int32) ≤ nI 12 by decide)]
      refine ⟨σ', (1, τ'), rfl, ?_, Or.inl ⟨rfl, a3⟩⟩
      rw [← a2]
      refine congrArg (Option.bind _) (funext fun u2 => ?_)
      rw [if_neg (show ¬ (nI 12 : Int32) = 9 by decide), zf_Mo_access_b120, if_neg (show ¬ (nI 12 : Int32) = 10 by decide)]
theorem MemOk.trans {m : Nat} {σ τ σ1 τ1 σ' : St} {u : Int32 × St} (h : MemOk m σ1 τ1 σ' u) (f1 : FrS σ σ1) (f2 : FrM τ τ1) : MemOk m σ τ σ' u := by
  rcases h with ⟨h1, h2, h3, h4⟩ | ⟨h1, s, h2, h3, h4, h5⟩
  · exact Or.inl ⟨h1, h2, f1.trans h3, f2.trans h4⟩
  · exact Or.inr ⟨h1, s, h2, h3, f1.trans h4, f2.trans h5⟩
theorem sim_mem {m : Nat} {σ τ : St} (hC : Cor m σ τ) {p o : Nat} (hp : p < 32) (h29 : σ 29 0 = nI p) (h24 : τ 24 0 = nI p) (h9 : 9 ≤ o) (h12 : o ≤ 12) :
    ∃ σ' u, zf_Ma_useMemory σ (nI o) = some σ' ∧ zf_Mo_access τ (nI o) (nI p) = some u ∧ MemOk m σ τ σ' u := by
  obtain ⟨d, a, b, hd, ha, hb, e1, e2, e3, i1, i2, i3, i4, i5⟩ := ins hC hp h29
  obtain ⟨ka, hka, ea, va, wa, ra⟩ := rg hC ha
  have ha8 : a < 8 := by omega
  have hh : ∀ w, (o = 9 ∧ w = 4) ∨ (o = 11 ∧ w = 4) ∨ (o = 10 ∧ w = 1) ∨ (o = 12 ∧ w = 1) → ∃ σ' u, (if (if τ 9 a = 15 then (1 : Int32) else 0) = 0 then (zf_Fi_note σ 4 (σ 29 0) (τ 8 a + τ 4 p)).bind (fun u14 => zf_Ma_useMemory_b83 u14 (nI o) (nI w) (τ 8 a + τ 4 p)) else zf_Ma_useMemory_b83 σ (nI o) (nI w) (τ 8 a + τ 4 p)) = some σ' ∧
      (if τ 9 a = 15 then zf_Mo_access_b60 τ (nI o) (nI p) (τ 8 a + τ 4 p) (nI w) else (zf_Mo_note τ 4 (τ 8 a + τ 4 p)).bind (fun u29 => zf_Mo_access_b60 u29 (nI o) (nI p) (τ 8 a + τ 4 p) (nI w))) = some u ∧ MemOk m σ τ σ' u := by
    intro w how
    by_cases hk : τ 9 a = 15
    · rw [if_pos hk, if_pos hk, if_neg (by decide)]
      exact sim_83 hC hp h29 h24 how _
    · rw [if_neg hk, if_neg hk, if_pos rfl]
      obtain ⟨σ1, τ1, g1, g2, g3, g4, g5⟩ := sim_note hC 4 (τ 8 a + τ 4 p)
      rw [h29, ← h24, g1, g2, Option.bind_some, Option.bind_some]
      rw [h24]
      obtain ⟨σ', u, s1, s2, s3⟩ := sim_83 g3 hp (by rw [g4 29 (by omega), h29]) (by rw [g5 24 (by omega), h24]) how (τ 8 a + τ 4 p)
      exact ⟨σ', u, s1, s2, s3.trans g4 g5⟩
  unfold zf_Ma_useMemory zf_Mo_access zf_Ma_useMemory_b12 zf_Mo_access_b31
  simp only [i2, i4, va, ra, Option.bind_some, px_ck hp (show 32 < 2 ^ 31 by omega), px_cl (show p < 2 ^ 31 by omega), e2, px_ck ha8 (show 8 < 2 ^ 31 by omega), px_cl (show a < 2 ^ 31 by omega)]
  have ho : o = 9 ∨ o = 10 ∨ o = 11 ∨ o = 12 := by omega
  rcases ho with rfl | rfl | rfl | rfl
  · rw [if_pos (show (nI 9 : Int32) = 9 from rfl), if_pos (show (nI 9 : Int32) = 9 from rfl)]
    exact hh 4 (by omega)
  · rw [if_neg (show ¬ (nI 10 : Int32) = 9 by decide), if_neg (show ¬ (nI 10 : Int32) = 9 by decide), if_neg (show ¬ (nI 10 : Int32) = 11 by decide), if_neg (show ¬ (nI 10 : Int32) = 11 by decide)]
    exact hh 1 (by omega)
  · rw [if_neg (show ¬ (nI 11 : Int32) = 9 by decide), if_neg (show ¬ (nI 11 : Int32) = 9 by decide), if_pos (show (nI 11 : Int32) = 11 from rfl), if_pos (show (nI 11 : Int32) = 11 from rfl)]
    exact hh 4 (by omega)
  · rw [if_neg (show ¬ (nI 12 : Int32) = 9 by decide), if_neg (show ¬ (nI 12 : Int32) = 9 by decide), if_neg (show ¬ (nI 12 : Int32) = 11 by decide), if_neg (show ¬ (nI 12 : Int32) = 11 by decide)]
    exact hh 1 (by omega)
