theorem zt_ok.of {a0 : Array Value} {s : State} (h : ∀ w ∈ zt_NG, w.before a0 s = true) : zt_ok s := by
  have hvm := Vm.Alike.refl s.vm
  have hh : ∀ (q : Nat) (c : Cell), s.heap[q]? = some c → c.vm.isStatics = true → s.heap[q]? = some c := fun _ _ h _ => h
  have hd : ∀ x : MethodName, Cond.declares x ∈ zt_NG → ∀ a : Array Value, (Cond.declares x).before a s = true := fun x hx a => zt_tab (a := a0) hvm rfl (fun vm' hv => Cond.declares_setVm hv x) (h _ hx)
  have hc : ∀ x y : String, Cond.castable x y ∈ zt_NG → ∀ a : Array Value, (Cond.castable x y).before a s = true := fun x y hx a => zt_tab (a := a0) hvm rfl (fun vm' hv => Cond.castable_setVm hv x y) (h _ hx)
  have hl : ∀ x y z : String, Cond.laysStatic x y z ∈ zt_NG → ∀ a : Array Value, (Cond.laysStatic x y z).before a s = true := fun x y z hx a => zt_lays (a := a0) hvm hh (h _ hx)
  have hr : ∀ x y z : String, Cond.laysStatic x y z ∈ zt_NG → Cond.isRef (.static x y z) ∈ zt_NG → ∀ a : Array Value, (Cond.isRef (.static x y z)).before a s = true := fun x y z h1 h2 a => zt_isRef (a := a0) hvm hh (h _ h1) (h _ h2)
  have hn : ∀ x y : String, Cond.not (.castable x y) ∈ zt_NG → ∀ a : Array Value, (Cond.not (.castable x y)).before a s = true := fun x y hx a => zt_nc (a := a0) hvm (h _ hx)
  intro w hw
  have hw0 := hw
  simp only [zt_NG, List.mem_cons, List.not_mem_nil, or_false] at hw
  rcases hw with rfl | rfl | rfl | rfl | rfl | rfl | rfl | rfl | rfl | rfl | rfl | rfl | rfl | rfl | rfl
  · exact hd _ hw0
  · exact hd _ hw0
  · exact hd _ hw0
  · exact hc _ _ hw0
  · exact hc _ _ hw0
  · exact hc _ _ hw0
  · exact hc _ _ hw0
  · exact hl _ _ _ hw0
  · exact hl _ _ _ hw0
  · exact hr _ _ _ (by simp [zt_NG]) hw0
  · exact hr _ _ _ (by simp [zt_NG]) hw0
  · exact hn _ _ hw0
  · exact hn _ _ hw0
  · exact hn _ _ hw0
  · exact hn _ _ hw0
theorem zt_split : (zt_NG.all (fun w => decide (w ∈ lw_tbl) || decide (w ∈ flatC (Jvm.Cond.and given_1 narrow_1)))) = true := by decide +kernel
set_option maxRecDepth 100000 in
set_option maxHeartbeats 8000000 in
theorem zl_start {p : Program} {e : Env} {s : State} {m : MethodId} {below : List Frame} {meth : Method} {c : Code} (l : Launch) (hfl : l.flags = flags0) {b L : Nat} {xs : Nat → Int32} (hL : L ≤ 3584) (C0 : lw_At p s m meth c b L xs) (Rel : Nat → St → St → Prop)
    (h0 : ∀ (j : Nat) (σ τ : St) (x1 x2 x3 x4 x5 x6 : Int32), j < 512 → Rel j σ τ → ∃ (out : TO) (τ' : St), zf_SW_code σ x1 x2 x3 x4 x5 x6 = some out ∧ (out.1 = 0 ∨ out.1 = 1) ∧ zf_Mo_code τ x1 x2 x3 x4 x5 x6 = some τ' ∧ zf_Mo_thrown τ' = some (zh_n out.1) ∧ Rel (j + 1) out.2.2 τ')
    (h1 : ∀ (j : Nat) (σ τ : St) (x1 : Int32), j < 512 → Rel j σ τ → ∃ (out : TO) (τ' : St), zf_SW_start σ x1 = some out ∧ (out.1 = 0 ∨ out.1 = 1) ∧ zf_Mo_start τ x1 = some τ' ∧ zf_Mo_thrown τ' = some (zh_n out.1) ∧ Rel (j + 1) out.2.2 τ')
    (h2 : ∀ (j : Nat) (σ τ : St) (x1 : Int32), j < 512 → Rel j σ τ → ∃ (out : TO) (r : Int32 × St), zf_SW_run σ x1 = some out ∧ (out.1 = 0 ∨ out.1 = 1 ∨ out.1 = 2 ∨ out.1 = 3) ∧ zf_Mo_run τ x1 = some r ∧ zf_Mo_thrown r.2 = some (zh_n out.1) ∧ (out.1 = 0 → out.2.1 = r.1) ∧ Rel (j + 1) out.2.2 r.2)
    (h3 : ∀ (j : Nat) (σ τ : St) (x1 x2 : Int32), j < 512 → Rel j σ τ → ∃ (out : TO) (r : Int32 × St), zf_SW_register σ x1 x2 = some out ∧ (out.1 = 0 ∨ out.1 = 1) ∧ zf_Mo_register τ x1 x2 = some r ∧ zf_Mo_thrown r.2 = some (zh_n out.1) ∧ (out.1 = 0 → out.2.1 = r.1) ∧ Rel (j + 1) out.2.2 r.2)
    (h4 : ∀ (j : Nat) (σ τ : St) (x1 x2 : Int32), j < 512 → Rel j σ τ → ∃ (out : TO) (r : Int32 × St), zf_SW_memory σ x1 x2 = some out ∧ (out.1 = 0 ∨ out.1 = 1) ∧ zf_Mo_memory τ x1 x2 = some r ∧ zf_Mo_thrown r.2 = some (zh_n out.1) ∧ (out.1 = 0 → out.2.1 = r.1) ∧ Rel (j + 1) out.2.2 r.2)
    (h5 : ∀ (j : Nat) (σ τ : St) (x1 x2 : Int32), j < 512 → Rel j σ τ → ∃ (out : TO) (τ' : St), zf_SW_poke σ x1 x2 = some out ∧ (out.1 = 0 ∨ out.1 = 1) ∧ zf_Mo_poke τ x1 x2 = some τ' ∧ zf_Mo_thrown τ' = some (zh_n out.1) ∧ Rel (j + 1) out.2.2 τ')
    (h6 : ∀ (j : Nat) (σ τ : St) (x1 x2 : Int32), j < 512 → Rel j σ τ → ∃ (out : TO) (r : Int32 × St), zf_SW_finding σ x1 x2 = some out ∧ (out.1 = 0 ∨ out.1 = 1 ∨ out.1 = 4) ∧ zf_Mo_finding τ x1 x2 = some r ∧ zf_Mo_thrown r.2 = some (zh_n out.1) ∧ (out.1 = 0 → out.2.1 = r.1) ∧ Rel (j + 1) out.2.2 r.2)
    (h7 : ∀ (j : Nat) (σ τ : St) (x1 x2 : Int32), j < 512 → Rel j σ τ → ∃ (out : TO) (r : Int32 × St), zf_SW_block σ x1 x2 = some out ∧ (out.1 = 0 ∨ out.1 = 1 ∨ out.1 = 4) ∧ zf_Mo_block τ x1 x2 = some r ∧ zf_Mo_thrown r.2 = some (zh_n out.1) ∧ (out.1 = 0 → out.2.1 = r.1) ∧ Rel (j + 1) out.2.2 r.2)
    (h8 : ∀ (j : Nat) (σ τ : St) (x1 : Int32), j < 512 → Rel j σ τ → ∃ (out : TO) (r : Int32 × St), zf_SW_leaks σ x1 = some out ∧ (out.1 = 0 ∨ out.1 = 1) ∧ zf_Mo_leaks τ x1 = some r ∧ zf_Mo_thrown r.2 = some (zh_n out.1) ∧ (out.1 = 0 → out.2.1 = r.1) ∧ Rel (j + 1) out.2.2 r.2)
    (h9 : ∀ (j : Nat) (σ τ : St) (x1 : Int32), j < 512 → Rel j σ τ → ∃ (v : Int32) (τ' : St), zf_SW_count σ x1 = some v ∧ zf_Mo_count τ x1 = some (v, τ') ∧ Rel (j + 1) σ τ') (h10 : ∀ (j : Nat) (σ τ : St), Rel j σ τ → Rel (j + 1) σ τ)
    {outE outG outM : St} (hfE : zf_E_Me_init_b31 (fun _ _ => 0) = some outE) (hfG : zf_G_Re_clear (fun _ _ => 0) = some outG) (hfM : zf_Mo_init_b172 (zz_put (fun _ _ => 0) 28 0 1) = some outM) (hR0 : Rel 0 (zSW0 outE outG) outM) : W p l e room_1 s m #[Value.ref b] below meth c s.heap [] 0 0 (lw_Z below #[Value.ref b] s) (entryFrame m ([Value.ref b] : List Value).toArray 7) := by
  obtain ⟨hx, hb, hr, hml, hown, hts0, hX, hbl, hlocks, hgv⟩ := id C0
  have hts : ∀ w ∈ zz_WS, w.before #[Value.ref b] s = true := fun w hw => hts0 w (List.mem_filter.mp hw).1
  have hok : zt_ok s := zt_ok.of (a0 := #[Value.ref b]) (fun w hw => by
    have h1 := List.all_eq_true.mp zt_split w hw
    rcases Bool.or_eq_true_iff.mp h1 with h1 | h1
    · exact hts0 w (of_decide_eq_true h1)
    · exact flat_of_before _ hgv w (of_decide_eq_true h1))
  obtain ⟨c0, iS0, hKn0⟩ := u_known (C := zR_SW) (T := zT_SW) (N := 8) (n := 8) hts zi_SW (hts _ zik_SW_init)
  obtain ⟨c1, iS1, hKn1⟩ := u_known (C := zR_Me) (T := zT_Me) (N := 3) (n := 3) hts zi_Me (hts _ zik_Me_init)
  obtain ⟨c2, iS2, hKn2⟩ := u_known (C := zR_Re) (T := zT_Re) (N := 2) (n := 2) hts zi_Re (hts _ zik_Re_init)
  obtain ⟨c3, iS3, hKn3⟩ := u_known (C := zR_Pr) (T := zT_Pr) (N := 5) (n := 5) hts zi_Pr (hts _ zik_Pr_init)
  obtain ⟨c4, iS4, hKn4⟩ := u_known (C := zR_Pi) (T := zT_Pi) (N := 4) (n := 4) hts zi_Pi (hts _ zik_Pi_init)
  obtain ⟨c5, iS5, hKn5⟩ := u_known (C := zR_Fi) (T := zT_Fi) (N := 5) (n := 5) hts zi_Fi (hts _ zik_Fi_init)
  obtain ⟨c6, iS6, hKn6⟩ := u_known (C := zR_He) (T := zT_He) (N := 9) (n := 9) hts zi_He (hts _ zik_He_init)
  obtain ⟨c7, iS7, hKn7⟩ := u_known (C := zR_LS) (T := zT_LS) (N := 6) (n := 6) hts zi_LS (hts _ zik_LS_init)
  obtain ⟨c8, iS8, hKn8⟩ := u_known (C := zR_Ma) (T := zT_Ma) (N := 11) (n := 11) hts zi_Ma (hts _ zik_Ma_init)
  obtain ⟨c9, iS9, hKn9⟩ := u_known (C := zR_Mo) (T := zT_Mo) (N := 29) (n := 29) hts zi_Mo (hts _ zik_Mo_init)
  obtain ⟨D, hKc⟩ : ∃ D : va_G, ∀ (k : Nat) (q : vw_C), vwCl[k]? = some q → u_Kn s q.1 q.2.1 q.2.2 (D.1 k) (D.2 k) := by
    refine ⟨((fun k => match k with | 0 => c0 | 1 => c1 | 2 => c2 | 3 => c3 | 4 => c4 | 5 => c5 | 6 => c6 | 7 => c7 | 8 => c8 | _ => c9), (fun k => match k with | 0 => iS0 | 1 => iS1 | 2 => iS2 | 3 => iS3 | 4 => iS4 | 5 => iS5 | 6 => iS6 | 7 => iS7 | 8 => iS8 | _ => iS9)), ?_⟩
    intro k q hq
    match k, hq with
    | 0, hq => cases hq; exact hKn0
    | 1, hq => cases hq; exact hKn1
    | 2, hq => cases hq; exact hKn2
    | 3, hq => cases hq; exact hKn3
    | 4, hq => cases hq; exact hKn4
    | 5, hq => cases hq; exact hKn5
    | 6, hq => cases hq; exact hKn6
    | 7, hq => cases hq; exact hKn7
    | 8, hq => cases hq; exact hKn8
    | 9, hq => cases hq; exact hKn9
    | k + 10, hq => simp [vwCl] at hq
  have X : zz_X D vwCl [] (fun q : Nat => s.heap.size ≤ q) s s.heap [] [] := ⟨⟨hKc, fun k q h => by simp at h⟩, fun k q h => by simp at h, ⟨fun i j p q h => by simp at h, fun k q h => by simp at h⟩, va_S.rf, fun q h => h⟩
  have hl := lv_entry ([.ref b]) (n := 7) (Nat.le_of_ble_eq_true rfl)
  rw [lg_entry_eq]
  generalize (lg_sl ([.ref b]) ++ List.replicate (7 - (lg_sl ([.ref b])).length) Slot.unset).toArray = ls at hl ⊢
  have hl : lv_has ls 7 [(0, .ref b)] := hl
  refine zr_new (ci := 0) (fs := [.null, .null, .null, .null, .null, .null, .null, .null]) (C := zR_SW) (T := zT_SW) (N := 8) hx hb hown hts zi_SW zt_SW zo_SW zln_8 zik_SW_init zij_SW_init X rfl (fun j hj => by rcases (show j = 0 ∨ j = 1 ∨ j = 2 ∨ j = 3 ∨ j = 4 ∨ j = 5 ∨ j = 6 ∨ j = 7 by omega) with rfl | rfl | rfl | rfl | rfl | rfl | rfl | rfl <;> rfl) ⟨Nat.le_of_ble_eq_true rfl, Nat.le_of_ble_eq_true rfl⟩ zd_La_law_0 (fun qx H X => ?_)
  refine lv_dup hx hb zd_La_law_3 rfl ?_
  refine zr_ci (n := 0) (As := []) (rest := [.ref qx]) (ci := 0) hx hb hml hown hts hl.1 X (zk_SW_init l D qx hfE hfG) zic_SW_init zij_SW_init zll_49 zii_SW_init rfl ⟨by decide +kernel, by decide +kernel, by decide +kernel⟩ rfl rfl (Nat.le_of_ble_eq_true rfl) ⟨rfl, rfl⟩ ⟨Nat.le_of_ble_eq_true rfl, Nat.le_of_ble_eq_true rfl⟩ ⟨Nat.le_of_ble_eq_true rfl, Nat.le_of_ble_eq_true rfl⟩ zd_La_law_4 (fun u H locs hw X => ?_)
  obtain ⟨q, cI, cZ, σ⟩ := u
  obtain ⟨hq0, hσ⟩ := hw
  have hq0 : q 0 = qx := hq0
  have hσ : σ = zSW0 outE outG := hσ
  have X9 : zz_X D vwCl [(cI, .int), (cZ, .boolean)] (fun q : Nat => s.heap.size ≤ q) s H locs (wS q cI cZ σ ++ []) := X
  subst hσ
  subst hq0
  have X : zz_X D vwCl [(cI, .int), (cZ, .boolean)] (fun q : Nat => s.heap.size ≤ q) s H locs (wS q cI cZ (zSW0 outE outG) ++ []) := X9
  refine lv_astore_n (lv' := [(1, .ref (q 0)), (0, .ref b)]) hx hb zd_La_law_7 rfl hl (by decide) rfl (fun ls hl => ?_)
  refine zr_new (ci := 9) (fs := [.null, .null, .null, .null, .null, .null, .null, .null, .null, .null, .null, .null, .null, .null, .null, .null, .null, .null, .null, .null, .int 0, .int 0, .int 0, .int 0, .int 0, .int 0, .int 0, .int 0, .int 0]) (C := zR_Mo) (T := zT_Mo) (N := 29) hx hb hown hts zi_Mo zt_Mo zo_Mo zln_50 zik_Mo_init zij_Mo_init X rfl (fun j hj => by rcases (show j = 0 ∨ j = 1 ∨ j = 2 ∨ j = 3 ∨ j = 4 ∨ j = 5 ∨ j = 6 ∨ j = 7 ∨ j = 8 ∨ j = 9 ∨ j = 10 ∨ j = 11 ∨ j = 12 ∨ j = 13 ∨ j = 14 ∨ j = 15 ∨ j = 16 ∨ j = 17 ∨ j = 18 ∨ j = 19 ∨ j = 20 ∨ j = 21 ∨ j = 22 ∨ j = 23 ∨ j = 24 ∨ j = 25 ∨ j = 26 ∨ j = 27 ∨ j = 28 by omega) with rfl | rfl | rfl | rfl | rfl | rfl | rfl | rfl | rfl | rfl | rfl | rfl | rfl | rfl | rfl | rfl | rfl | rfl | rfl | rfl | rfl | rfl | rfl | rfl | rfl | rfl | rfl | rfl | rfl <;> rfl) ⟨Nat.le_of_ble_eq_true rfl, Nat.le_of_ble_eq_true rfl⟩ zd_La_law_8 (fun qm H X => ?_)
  refine lv_dup hx hb zd_La_law_11 rfl ?_
  refine zr_ci (n := 0) (As := []) (rest := [.ref qm]) (ci := 9) hx hb hml hown hts hl.1 X (zk_Mo_init l D qm hfM) zic_Mo_init zij_Mo_init zll_52 zii_Mo_init rfl ⟨by decide +kernel, by decide +kernel, by decide +kernel⟩ rfl rfl (Nat.le_of_ble_eq_true rfl) ⟨rfl, rfl⟩ ⟨Nat.le_of_ble_eq_true rfl, Nat.le_of_ble_eq_true rfl⟩ ⟨Nat.le_of_ble_eq_true rfl, Nat.le_of_ble_eq_true rfl⟩ zd_La_law_12 (fun u H locs hw X => ?_)
  obtain ⟨a2, cI2, cZ2, τ⟩ := u
  have hw : τ = outM := hw
  subst τ
  have X : zz_X D vwCl [(cI, .int), (cZ, .boolean), (cI2, .int), (cZ2, .boolean)] (fun q : Nat => s.heap.size ≤ q) s H locs (zwC_Mo qm (a2, cI2, cZ2, outM) ++ (wS q cI cZ (zSW0 outE outG) ++ [])) := X
  refine lv_astore_n (lv' := [(2, .ref qm), (1, .ref (q 0)), (0, .ref b)]) hx hb zd_La_law_15 rfl hl (by decide) rfl (fun ls hl => ?_)
  refine lv_iconst (v := 1) hx hb zd_La_law_16 (by decide) ?_
  refine zr_newa (atype := .long) (ty := .long) (N' := 1) (a0 := (1, .inr (.inl (fun _ => 0)))) rfl hx hb hts zo_aJ X (fun cA => rfl) (by decide) (by decide) (by decide) ⟨Nat.le_of_ble_eq_true rfl, Nat.le_of_ble_eq_true rfl⟩ zd_La_law_17 (fun qo cJ H X => ?_)
  refine lv_astore_n (lv' := [(3, .ref qo), (2, .ref qm), (1, .ref (q 0)), (0, .ref b)]) hx hb zd_La_law_19 rfl hl (by decide) rfl (fun ls hl => ?_)
  refine lv_iconst (v := 0) hx hb zd_La_law_20 (by decide) ?_
  refine lv_istore (lv' := [(4, .int 0), (3, .ref qo), (2, .ref qm), (1, .ref (q 0)), (0, .ref b)]) hx hb zd_La_law_21 hl (by decide) rfl (fun ls hl => ?_)
  have X : zz_X D vwCl [(cI, .int), (cZ, .boolean), (cI2, .int), (cZ2, .boolean), (cJ, .long)] (fun q : Nat => s.heap.size ≤ q) s H locs ((zwC_Mo qm (a2, cI2, cZ2, outM) ++ (wS q cI cZ (zSW0 outE outG) ++ [])) ++ [(qo, .inl (cJ, 1, .inr (.inl (fun _ => 0))))]) := X
  have e1 : cI = cI2 := zc_uI X.1 0 2 rfl rfl
  have e2 : cZ = cZ2 := zc_uZ X.1 1 3 rfl rfl
  subst e1
  subst e2
  have X : zz_X D vwCl (zz_tyJ cI cZ cJ) (fun q : Nat => s.heap.size ≤ q) s H locs (wM (fun k => match k with | 0 => qm | i + 1 => a2 i) cI cZ outM ++ wH q cI cZ qo cJ (zSW0 outE outG, fun _ => 0)) := ⟨X.1.sub [0, 1, 4] rfl, X.2⟩
  have X := zx_swap X
  exact zl_loop (q' := fun k => match k with | 0 => qm | i + 1 => a2 i) hfl hL C0 hok Rel h0 h1 h2 h3 h4 h5 h6 h7 h8 h9 h10 (L + 1) 0 _ _ _ _ _ ls (Nat.zero_le _) (by omega) hR0 X (lv_sub hl [4, 3, 2, 1, 0] rfl)

