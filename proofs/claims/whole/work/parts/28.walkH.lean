set_option maxRecDepth 100000 in
set_option maxHeartbeats 4000000 in
theorem zk_La_code (l : Launch) (hfl : l.flags = flags0) (D : va_G) (q : Nat → Nat) (cI cZ : ClassId) (qo : Nat) (cJ : ClassId) {σ : St} {o : LO} {x1 x2 x3 x4 x5 x6 : Int32} {out : TO} (hf : zf_SW_code σ x1 x2 x3 x4 x5 x6 = some out) (hk : out.1 = 0 ∨ out.1 = 1) :
    zH l D vwCl (zz_tyJ cI cZ cJ) (wH q cI cZ qo cJ) zy_La_code (.codeWith zy_La_code zc_La_code 8 (some .int) zhh_La_code :: zz_WS) zm_La_code [.ref (q 0), .int x1, .int x2, .int x3, .int x4, .int x5, .int x6] (σ, o) (zh_n out.1, (out.2.2, o)) := by
  refine zH_of (by decide +kernel) (Nat.le_of_ble_eq_true rfl) (fun p e s m below meth c A ls hx hb hml hown hts hr hlocks htab hok hstat X hl => ?_)
  have hl : lv_has ls 8 [(0, .ref (q 0)), (1, .int x1), (2, .int x2), (3, .int x3), (4, .int x4), (5, .int x5), (6, .int x6)] := hl
  have X : zz_X D vwCl (zz_tyJ cI cZ cJ) A s s.heap [] (wS q cI cZ σ ++ [(qo, .inl (cJ, 1, .inr (.inl o)))]) := X
  refine lv_aload_n hx hb zd_La_code_0 rfl (lv_at hl 0 rfl) ?_
  refine lv_iload_n hx hb zd_La_code_1 rfl (lv_at hl 1 rfl) ?_
  refine lv_iload_n hx hb zd_La_code_2 rfl (lv_at hl 2 rfl) ?_
  refine lv_iload_n hx hb zd_La_code_3 rfl (lv_at hl 3 rfl) ?_
  refine lv_iload hx hb zd_La_code_4 (lv_at hl 4 rfl) ?_
  refine lv_iload hx hb zd_La_code_6 (lv_at hl 5 rfl) ?_
  refine lv_iload hx hb zd_La_code_8 (lv_at hl 6 rfl) ?_
  refine zr_fc (w := wS q cI cZ) (σ := σ) (As := [.int x1, .int x2, .int x3, .int x4, .int x5, .int x6]) (rest := []) (q0 := 0) (ci := 0) hx hb hml hown hts hl.1 hok hstat X [0, 1] rfl (zk_SW_code l hfl D q cI cZ hf) zkw_SW_code zl_La_7 rfl rfl (Nat.le_of_ble_eq_true rfl) rfl rfl ⟨rfl, rfl⟩ ⟨Nat.le_of_ble_eq_true rfl, Nat.le_of_ble_eq_true rfl⟩ ⟨Nat.le_of_ble_eq_true rfl, Nat.le_of_ble_eq_true rfl⟩ zd_La_code_10 (fun h0 H locs X => ?_) (fun h0 H locs x cell X hcx hvx hfx => ?_)
  · refine W.eq (g2 := F0 m 13 ls []) rfl ?_
    have X : zz_X D vwCl (zz_tyJ cI cZ cJ) A s H locs (wH q cI cZ qo cJ (out.2.2, o)) := X
    refine lv_goto (tgt := 20) hx hb zd_La_code_13 (by decide) ?_
    refine lv_iconst (v := 0) hx hb zd_La_code_20 (by decide) ?_
    exact zr_hret hx hb hr hlocks X (by simp [h0, zh_n]) zd_La_code_21
  · have X : zz_X D vwCl (zz_tyJ cI cZ cJ) A s H locs (wH q cI cZ qo cJ (out.2.2, o)) := X
    rcases hk with h1 | h1
    · exact absurd h1 h0
    · rw [h1] at hfx
      refine zr_ct (E := zt_ex 1) (pre := []) (rs := []) (sp := 0) (en := 13) (hd := 16) (ct := 13) hown hts hok hcx hvx hfx htab rfl ⟨by decide, by decide⟩ (by decide) zx_La_13 (by decide +kernel) (fun y hy => by cases hy) ?_
      refine lv_astore (lv' := [(7, .ref x), (0, .ref (q 0)), (1, .int x1), (2, .int x2), (3, .int x3), (4, .int x4), (5, .int x5), (6, .int x6)]) hx hb zd_La_code_16 hl (by decide) rfl (fun ls hl => ?_)
      refine lv_iconst (v := 1) hx hb zd_La_code_18 (by decide) ?_
      exact zr_hret hx hb hr hlocks X (by simp [h1, zh_n]) zd_La_code_19

set_option maxRecDepth 100000 in
set_option maxHeartbeats 4000000 in
theorem zk_La_start (l : Launch) (hfl : l.flags = flags0) (D : va_G) (q : Nat → Nat) (cI cZ : ClassId) (qo : Nat) (cJ : ClassId) {σ : St} {o : LO} {x1 : Int32} {out : TO} (hf : zf_SW_start σ x1 = some out) (hk : out.1 = 0 ∨ out.1 = 1) :
    zH l D vwCl (zz_tyJ cI cZ cJ) (wH q cI cZ qo cJ) zy_La_start (.codeWith zy_La_start zc_La_start 3 (some .int) zhh_La_start :: zz_WS) zm_La_start [.ref (q 0), .int x1] (σ, o) (zh_n out.1, (out.2.2, o)) := by
  refine zH_of (by decide +kernel) (Nat.le_of_ble_eq_true rfl) (fun p e s m below meth c A ls hx hb hml hown hts hr hlocks htab hok hstat X hl => ?_)
  have hl : lv_has ls 3 [(0, .ref (q 0)), (1, .int x1)] := hl
  have X : zz_X D vwCl (zz_tyJ cI cZ cJ) A s s.heap [] (wS q cI cZ σ ++ [(qo, .inl (cJ, 1, .inr (.inl o)))]) := X
  refine lv_aload_n hx hb zd_La_start_0 rfl (lv_at hl 0 rfl) ?_
  refine lv_iload_n hx hb zd_La_start_1 rfl (lv_at hl 1 rfl) ?_
  refine zr_fc (w := wS q cI cZ) (σ := σ) (As := [.int x1]) (rest := []) (q0 := 0) (ci := 0) hx hb hml hown hts hl.1 hok hstat X [0, 1] rfl (zk_SW_start l hfl D q cI cZ hf) zkw_SW_start zl_La_15 rfl rfl (Nat.le_of_ble_eq_true rfl) rfl rfl ⟨rfl, rfl⟩ ⟨Nat.le_of_ble_eq_true rfl, Nat.le_of_ble_eq_true rfl⟩ ⟨Nat.le_of_ble_eq_true rfl, Nat.le_of_ble_eq_true rfl⟩ zd_La_start_2 (fun h0 H locs X => ?_) (fun h0 H locs x cell X hcx hvx hfx => ?_)
  · refine W.eq (g2 := F0 m 5 ls []) rfl ?_
    have X : zz_X D vwCl (zz_tyJ cI cZ cJ) A s H locs (wH q cI cZ qo cJ (out.2.2, o)) := X
    refine lv_goto (tgt := 11) hx hb zd_La_start_5 (by decide) ?_
    refine lv_iconst (v := 0) hx hb zd_La_start_11 (by decide) ?_
    exact zr_hret hx hb hr hlocks X (by simp [h0, zh_n]) zd_La_start_12
  · have X : zz_X D vwCl (zz_tyJ cI cZ cJ) A s H locs (wH q cI cZ qo cJ (out.2.2, o)) := X
    rcases hk with h1 | h1
    · exact absurd h1 h0
    · rw [h1] at hfx
      refine zr_ct (E := zt_ex 1) (pre := []) (rs := []) (sp := 0) (en := 5) (hd := 8) (ct := 13) hown hts hok hcx hvx hfx htab rfl ⟨by decide, by decide⟩ (by decide) zx_La_13 (by decide +kernel) (fun y hy => by cases hy) ?_
      refine lv_astore_n (lv' := [(2, .ref x), (0, .ref (q 0)), (1, .int x1)]) hx hb zd_La_start_8 rfl hl (by decide) rfl (fun ls hl => ?_)
      refine lv_iconst (v := 1) hx hb zd_La_start_9 (by decide) ?_
      exact zr_hret hx hb hr hlocks X (by simp [h1, zh_n]) zd_La_start_10

set_option maxRecDepth 100000 in
set_option maxHeartbeats 4000000 in
theorem zk_La_run (l : Launch) (hfl : l.flags = flags0) (D : va_G) (q : Nat → Nat) (cI cZ : ClassId) (qo : Nat) (cJ : ClassId) {σ : St} {o : LO} {x1 : Int32} {out : TO} (hf : zf_SW_run σ x1 = some out) (hk : out.1 = 0 ∨ out.1 = 1 ∨ out.1 = 2 ∨ out.1 = 3) :
    zH l D vwCl (zz_tyJ cI cZ cJ) (wH q cI cZ qo cJ) zy_La_run (.codeWith zy_La_run zc_La_run 4 (some .int) zhh_La_run :: zz_WS) zm_La_run [.ref (q 0), .int x1, .ref qo] (σ, o) (zh_n out.1, (out.2.2, if out.1 = 0 then vp_updL o 0 out.2.1.toInt64 else o)) := by
  refine zH_of (by decide +kernel) (Nat.le_of_ble_eq_true rfl) (fun p e s m below meth c A ls hx hb hml hown hts hr hlocks htab hok hstat X hl => ?_)
  have hl : lv_has ls 4 [(0, .ref (q 0)), (1, .int x1), (2, .ref qo)] := hl
  have X : zz_X D vwCl (zz_tyJ cI cZ cJ) A s s.heap [] (wS q cI cZ σ ++ [(qo, .inl (cJ, 1, .inr (.inl o)))]) := X
  refine lv_aload_n hx hb zd_La_run_0 rfl (lv_at hl 2 rfl) ?_
  refine lv_iconst (v := 0) hx hb zd_La_run_1 (by decide) ?_
  refine lv_aload_n hx hb zd_La_run_2 rfl (lv_at hl 0 rfl) ?_
  refine lv_iload_n hx hb zd_La_run_3 rfl (lv_at hl 1 rfl) ?_
  refine zr_fc (w := wS q cI cZ) (σ := σ) (As := [.int x1]) (rest := [.int 0, .ref qo]) (q0 := 0) (ci := 0) hx hb hml hown hts hl.1 hok hstat X [0, 1] rfl (zk_SW_run l hfl D q cI cZ hf) zkw_SW_run zl_La_19 rfl rfl (Nat.le_of_ble_eq_true rfl) rfl rfl ⟨rfl, rfl⟩ ⟨Nat.le_of_ble_eq_true rfl, Nat.le_of_ble_eq_true rfl⟩ ⟨Nat.le_of_ble_eq_true rfl, Nat.le_of_ble_eq_true rfl⟩ zd_La_run_4 (fun h0 H locs X => ?_) (fun h0 H locs x cell X hcx hvx hfx => ?_)
  · refine W.eq (g2 := F0 m 7 ls [.int out.2.1, .int 0, .ref qo]) rfl ?_
    refine lv_i2l (v := out.2.1.toInt64) hx hb zd_La_run_7 rfl ?_
    refine va_last hx hb X.1 X.2.1 X.2.2.1 X.2.2.2.1 31 2 rfl rfl (by unfold vp_in; decide) zd_La_run_8 (fun H locs hP hD hS => ?_)
    have X : zz_X D vwCl (zz_tyJ cI cZ cJ) A s H locs (wH q cI cZ qo cJ (out.2.2, vp_updL o 0 out.2.1.toInt64)) := ⟨X.1, hP, hD, hS, X.2.2.2.2⟩
    refine lv_goto (tgt := 21) hx hb zd_La_run_9 (by decide) ?_
    refine lv_iconst (v := 0) hx hb zd_La_run_21 (by decide) ?_
    exact zr_hret hx hb hr hlocks X (by simp [h0, zh_n]) zd_La_run_22
  · have X : zz_X D vwCl (zz_tyJ cI cZ cJ) A s H locs (wH q cI cZ qo cJ (out.2.2, o)) := X
    rcases hk with h1 | h1 | h1 | h1
    · exact absurd h1 h0
    · rw [h1] at hfx
      refine zr_ct (E := zt_ex 1) (pre := []) (rs := [(0, 9, 15, 23), (0, 9, 18, 25)]) (sp := 0) (en := 9) (hd := 12) (ct := 13) hown hts hok hcx hvx hfx htab rfl ⟨by decide, by decide⟩ (by decide) zx_La_13 (by decide +kernel) (fun y hy => by cases hy) ?_
      refine lv_astore_n (lv' := [(3, .ref x), (0, .ref (q 0)), (1, .int x1), (2, .ref qo)]) hx hb zd_La_run_12 rfl hl (by decide) rfl (fun ls hl => ?_)
      refine lv_iconst (v := 1) hx hb zd_La_run_13 (by decide) ?_
      exact zr_hret hx hb hr hlocks X (by simp [h1, zh_n]) zd_La_run_14
    · rw [h1] at hfx
      refine zr_ct (E := zt_ex 2) (pre := [(0, 9, 12, 13)]) (rs := [(0, 9, 18, 25)]) (sp := 0) (en := 9) (hd := 15) (ct := 23) hown hts hok hcx hvx hfx htab rfl ⟨by decide, by decide⟩ (by decide) zx_La_23 (by decide +kernel) (fun y hy => by
      simp only [List.mem_cons, List.not_mem_nil, or_false] at hy
      rcases hy with rfl
      · exact ⟨⟨by decide, by decide⟩, by decide, zt_ex 1, zx_La_13, by decide +kernel⟩) ?_
      refine lv_astore_n (lv' := [(3, .ref x), (0, .ref (q 0)), (1, .int x1), (2, .ref qo)]) hx hb zd_La_run_15 rfl hl (by decide) rfl (fun ls hl => ?_)
      refine lv_iconst (v := 2) hx hb zd_La_run_16 (by decide) ?_
      exact zr_hret hx hb hr hlocks X (by simp [h1, zh_n]) zd_La_run_17
    · rw [h1] at hfx
      refine zr_ct (E := zt_ex 3) (pre := [(0, 9, 12, 13), (0, 9, 15, 23)]) (rs := []) (sp := 0) (en := 9) (hd := 18) (ct := 25) hown hts hok hcx hvx hfx htab rfl ⟨by decide, by decide⟩ (by decide) zx_La_25 (by decide +kernel) (fun y hy => by
      simp only [List.mem_cons, List.not_mem_nil, or_false] at hy
      rcases hy with rfl | rfl
      · exact ⟨⟨by decide, by decide⟩, by decide, zt_ex 1, zx_La_13, by decide +kernel⟩
      · exact ⟨⟨by decide, by decide⟩, by decide, zt_ex 2, zx_La_23, by decide +kernel⟩) ?_
      refine lv_astore_n (lv' := [(3, .ref x), (0, .ref (q 0)), (1, .int x1), (2, .ref qo)]) hx hb zd_La_run_18 rfl hl (by decide) rfl (fun ls hl => ?_)
      refine lv_iconst (v := 3) hx hb zd_La_run_19 (by decide) ?_
      exact zr_hret hx hb hr hlocks X (by simp [h1, zh_n]) zd_La_run_20

set_option maxRecDepth 100000 in
set_option maxHeartbeats 4000000 in
theorem zk_La_register (l : Launch) (hfl : l.flags = flags0) (D : va_G) (q : Nat → Nat) (cI cZ : ClassId) (qo : Nat) (cJ : ClassId) {σ : St} {o : LO} {x1 x2 : Int32} {out : TO} (hf : zf_SW_register σ x1 x2 = some out) (hk : out.1 = 0 ∨ out.1 = 1) :
    zH l D vwCl (zz_tyJ cI cZ cJ) (wH q cI cZ qo cJ) zy_La_register (.codeWith zy_La_register zc_La_register 5 (some .int) zhh_La_register :: zz_WS) zm_La_register [.ref (q 0), .int x1, .int x2, .ref qo] (σ, o) (zh_n out.1, (out.2.2, if out.1 = 0 then vp_updL o 0 out.2.1.toInt64 else o)) := by
  refine zH_of (by decide +kernel) (Nat.le_of_ble_eq_true rfl) (fun p e s m below meth c A ls hx hb hml hown hts hr hlocks htab hok hstat X hl => ?_)
  have hl : lv_has ls 5 [(0, .ref (q 0)), (1, .int x1), (2, .int x2), (3, .ref qo)] := hl
  have X : zz_X D vwCl (zz_tyJ cI cZ cJ) A s s.heap [] (wS q cI cZ σ ++ [(qo, .inl (cJ, 1, .inr (.inl o)))]) := X
  refine lv_aload_n hx hb zd_La_register_0 rfl (lv_at hl 3 rfl) ?_
  refine lv_iconst (v := 0) hx hb zd_La_register_1 (by decide) ?_
  refine lv_aload_n hx hb zd_La_register_2 rfl (lv_at hl 0 rfl) ?_
  refine lv_iload_n hx hb zd_La_register_3 rfl (lv_at hl 1 rfl) ?_
  refine lv_iload_n hx hb zd_La_register_4 rfl (lv_at hl 2 rfl) ?_
  refine zr_fc (w := wS q cI cZ) (σ := σ) (As := [.int x1, .int x2]) (rest := [.int 0, .ref qo]) (q0 := 0) (ci := 0) hx hb hml hown hts hl.1 hok hstat X [0, 1] rfl (zk_SW_register l hfl D q cI cZ hf) zkw_SW_register zl_La_27 rfl rfl (Nat.le_of_ble_eq_true rfl) rfl rfl ⟨rfl, rfl⟩ ⟨Nat.le_of_ble_eq_true rfl, Nat.le_of_ble_eq_true rfl⟩ ⟨Nat.le_of_ble_eq_true rfl, Nat.le_of_ble_eq_true rfl⟩ zd_La_register_5 (fun h0 H locs X => ?_) (fun h0 H locs x cell X hcx hvx hfx => ?_)
  · refine W.eq (g2 := F0 m 8 ls [.int out.2.1, .int 0, .ref qo]) rfl ?_
    refine lv_i2l (v := out.2.1.toInt64) hx hb zd_La_register_8 rfl ?_
    refine va_last hx hb X.1 X.2.1 X.2.2.1 X.2.2.2.1 31 2 rfl rfl (by unfold vp_in; decide) zd_La_register_9 (fun H locs hP hD hS => ?_)
    have X : zz_X D vwCl (zz_tyJ cI cZ cJ) A s H locs (wH q cI cZ qo cJ (out.2.2, vp_updL o 0 out.2.1.toInt64)) := ⟨X.1, hP, hD, hS, X.2.2.2.2⟩
    refine lv_goto (tgt := 17) hx hb zd_La_register_10 (by decide) ?_
    refine lv_iconst (v := 0) hx hb zd_La_register_17 (by decide) ?_
    exact zr_hret hx hb hr hlocks X (by simp [h0, zh_n]) zd_La_register_18
  · have X : zz_X D vwCl (zz_tyJ cI cZ cJ) A s H locs (wH q cI cZ qo cJ (out.2.2, o)) := X
    rcases hk with h1 | h1
    · exact absurd h1 h0
    · rw [h1] at hfx
      refine zr_ct (E := zt_ex 1) (pre := []) (rs := []) (sp := 0) (en := 10) (hd := 13) (ct := 13) hown hts hok hcx hvx hfx htab rfl ⟨by decide, by decide⟩ (by decide) zx_La_13 (by decide +kernel) (fun y hy => by cases hy) ?_
      refine lv_astore (lv' := [(4, .ref x), (0, .ref (q 0)), (1, .int x1), (2, .int x2), (3, .ref qo)]) hx hb zd_La_register_13 hl (by decide) rfl (fun ls hl => ?_)
      refine lv_iconst (v := 1) hx hb zd_La_register_15 (by decide) ?_
      exact zr_hret hx hb hr hlocks X (by simp [h1, zh_n]) zd_La_register_16

set_option maxRecDepth 100000 in
set_option maxHeartbeats 4000000 in
theorem zk_La_memory (l : Launch) (hfl : l.flags = flags0) (D : va_G) (q : Nat → Nat) (cI cZ : ClassId) (qo : Nat) (cJ : ClassId) {σ : St} {o : LO} {x1 x2 : Int32} {out : TO} (hf : zf_SW_memory σ x1 x2 = some out) (hk : out.1 = 0 ∨ out.1 = 1) :
    zH l D vwCl (zz_tyJ cI cZ cJ) (wH q cI cZ qo cJ) zy_La_memory (.codeWith zy_La_memory zc_La_memory 5 (some .int) zhh_La_memory :: zz_WS) zm_La_memory [.ref (q 0), .int x1, .int x2, .ref qo] (σ, o) (zh_n out.1, (out.2.2, if out.1 = 0 then vp_updL o 0 out.2.1.toInt64 else o)) := by
  refine zH_of (by decide +kernel) (Nat.le_of_ble_eq_true rfl) (fun p e s m below meth c A ls hx hb hml hown hts hr hlocks htab hok hstat X hl => ?_)
  have hl : lv_has ls 5 [(0, .ref (q 0)), (1, .int x1), (2, .int x2), (3, .ref qo)] := hl
  have X : zz_X D vwCl (zz_tyJ cI cZ cJ) A s s.heap [] (wS q cI cZ σ ++ [(qo, .inl (cJ, 1, .inr (.inl o)))]) := X
  refine lv_aload_n hx hb zd_La_memory_0 rfl (lv_at hl 3 rfl) ?_
  refine lv_iconst (v := 0) hx hb zd_La_memory_1 (by decide) ?_
  refine lv_aload_n hx hb zd_La_memory_2 rfl (lv_at hl 0 rfl) ?_
  refine lv_iload_n hx hb zd_La_memory_3 rfl (lv_at hl 1 rfl) ?_
  refine lv_iload_n hx hb zd_La_memory_4 rfl (lv_at hl 2 rfl) ?_
  refine zr_fc (w := wS q cI cZ) (σ := σ) (As := [.int x1, .int x2]) (rest := [.int 0, .ref qo]) (q0 := 0) (ci := 0) hx hb hml hown hts hl.1 hok hstat X [0, 1] rfl (zk_SW_memory l hfl D q cI cZ hf) zkw_SW_memory zl_La_31 rfl rfl (Nat.le_of_ble_eq_true rfl) rfl rfl ⟨rfl, rfl⟩ ⟨Nat.le_of_ble_eq_true rfl, Nat.le_of_ble_eq_true rfl⟩ ⟨Nat.le_of_ble_eq_true rfl, Nat.le_of_ble_eq_true rfl⟩ zd_La_memory_5 (fun h0 H locs X => ?_) (fun h0 H locs x cell X hcx hvx hfx => ?_)
  · refine W.eq (g2 := F0 m 8 ls [.int out.2.1, .int 0, .ref qo]) rfl ?_
    refine lv_i2l (v := out.2.1.toInt64) hx hb zd_La_memory_8 rfl ?_
    refine va_last hx hb X.1 X.2.1 X.2.2.1 X.2.2.2.1 31 2 rfl rfl (by unfold vp_in; decide) zd_La_memory_9 (fun H locs hP hD hS => ?_)
    have X : zz_X D vwCl (zz_tyJ cI cZ cJ) A s H locs (wH q cI cZ qo cJ (out.2.2, vp_updL o 0 out.2.1.toInt64)) := ⟨X.1, hP, hD, hS, X.2.2.2.2⟩
    refine lv_goto (tgt := 17) hx hb zd_La_memory_10 (by decide) ?_
    refine lv_iconst (v := 0) hx hb zd_La_memory_17 (by decide) ?_
    exact zr_hret hx hb hr hlocks X (by simp [h0, zh_n]) zd_La_memory_18
  · have X : zz_X D vwCl (zz_tyJ cI cZ cJ) A s H locs (wH q cI cZ qo cJ (out.2.2, o)) := X
    rcases hk with h1 | h1
    · exact absurd h1 h0
    · rw [h1] at hfx
      refine zr_ct (E := zt_ex 1) (pre := []) (rs := []) (sp := 0) (en := 10) (hd := 13) (ct := 13) hown hts hok hcx hvx hfx htab rfl ⟨by decide, by decide⟩ (by decide) zx_La_13 (by decide +kernel) (fun y hy => by cases hy) ?_
      refine lv_astore (lv' := [(4, .ref x), (0, .ref (q 0)), (1, .int x1), (2, .int x2), (3, .ref qo)]) hx hb zd_La_memory_13 hl (by decide) rfl (fun ls hl => ?_)
      refine lv_iconst (v := 1) hx hb zd_La_memory_15 (by decide) ?_
      exact zr_hret hx hb hr hlocks X (by simp [h1, zh_n]) zd_La_memory_16

set_option maxRecDepth 100000 in
set_option maxHeartbeats 4000000 in
theorem zk_La_poke (l : Launch) (hfl : l.flags = flags0) (D : va_G) (q : Nat → Nat) (cI cZ : ClassId) (qo : Nat) (cJ : ClassId) {σ : St} {o : LO} {x1 x2 : Int32} {out : TO} (hf : zf_SW_poke σ x1 x2 = some out) (hk : out.1 = 0 ∨ out.1 = 1) :
    zH l D vwCl (zz_tyJ cI cZ cJ) (wH q cI cZ qo cJ) zy_La_poke (.codeWith zy_La_poke zc_La_poke 4 (some .int) zhh_La_poke :: zz_WS) zm_La_poke [.ref (q 0), .int x1, .int x2] (σ, o) (zh_n out.1, (out.2.2, o)) := by
  refine zH_of (by decide +kernel) (Nat.le_of_ble_eq_true rfl) (fun p e s m below meth c A ls hx hb hml hown hts hr hlocks htab hok hstat X hl => ?_)
  have hl : lv_has ls 4 [(0, .ref (q 0)), (1, .int x1), (2, .int x2)] := hl
  have X : zz_X D vwCl (zz_tyJ cI cZ cJ) A s s.heap [] (wS q cI cZ σ ++ [(qo, .inl (cJ, 1, .inr (.inl o)))]) := X
  refine lv_aload_n hx hb zd_La_poke_0 rfl (lv_at hl 0 rfl) ?_
  refine lv_iload_n hx hb zd_La_poke_1 rfl (lv_at hl 1 rfl) ?_
  refine lv_iload_n hx hb zd_La_poke_2 rfl (lv_at hl 2 rfl) ?_
  refine zr_fc (w := wS q cI cZ) (σ := σ) (As := [.int x1, .int x2]) (rest := []) (q0 := 0) (ci := 0) hx hb hml hown hts hl.1 hok hstat X [0, 1] rfl (zk_SW_poke l hfl D q cI cZ hf) zkw_SW_poke zl_La_34 rfl rfl (Nat.le_of_ble_eq_true rfl) rfl rfl ⟨rfl, rfl⟩ ⟨Nat.le_of_ble_eq_true rfl, Nat.le_of_ble_eq_true rfl⟩ ⟨Nat.le_of_ble_eq_true rfl, Nat.le_of_ble_eq_true rfl⟩ zd_La_poke_3 (fun h0 H locs X => ?_) (fun h0 H locs x cell X hcx hvx hfx => ?_)
  · refine W.eq (g2 := F0 m 6 ls []) rfl ?_
    have X : zz_X D vwCl (zz_tyJ cI cZ cJ) A s H locs (wH q cI cZ qo cJ (out.2.2, o)) := X
    refine lv_goto (tgt := 12) hx hb zd_La_poke_6 (by decide) ?_
    refine lv_iconst (v := 0) hx hb zd_La_poke_12 (by decide) ?_
    exact zr_hret hx hb hr hlocks X (by simp [h0, zh_n]) zd_La_poke_13
  · have X : zz_X D vwCl (zz_tyJ cI cZ cJ) A s H locs (wH q cI cZ qo cJ (out.2.2, o)) := X
    rcases hk with h1 | h1
    · exact absurd h1 h0
    · rw [h1] at hfx
      refine zr_ct (E := zt_ex 1) (pre := []) (rs := []) (sp := 0) (en := 6) (hd := 9) (ct := 13) hown hts hok hcx hvx hfx htab rfl ⟨by decide, by decide⟩ (by decide) zx_La_13 (by decide +kernel) (fun y hy => by cases hy) ?_
      refine lv_astore_n (lv' := [(3, .ref x), (0, .ref (q 0)), (1, .int x1), (2, .int x2)]) hx hb zd_La_poke_9 rfl hl (by decide) rfl (fun ls hl => ?_)
      refine lv_iconst (v := 1) hx hb zd_La_poke_10 (by decide) ?_
      exact zr_hret hx hb hr hlocks X (by simp [h1, zh_n]) zd_La_poke_11

set_option maxRecDepth 100000 in
set_option maxHeartbeats 4000000 in
theorem zk_La_finding (l : Launch) (hfl : l.flags = flags0) (D : va_G) (q : Nat → Nat) (cI cZ : ClassId) (qo : Nat) (cJ : ClassId) {σ : St} {o : LO} {x1 x2 : Int32} {out : TO} (hf : zf_SW_finding σ x1 x2 = some out) (hk : out.1 = 0 ∨ out.1 = 1 ∨ out.1 = 4) :
    zH l D vwCl (zz_tyJ cI cZ cJ) (wH q cI cZ qo cJ) zy_La_finding (.codeWith zy_La_finding zc_La_finding 5 (some .int) zhh_La_finding :: zz_WS) zm_La_finding [.ref (q 0), .int x1, .int x2, .ref qo] (σ, o) (zh_n out.1, (out.2.2, if out.1 = 0 then vp_updL o 0 out.2.1.toInt64 else o)) := by
  refine zH_of (by decide +kernel) (Nat.le_of_ble_eq_true rfl) (fun p e s m below meth c A ls hx hb hml hown hts hr hlocks htab hok hstat X hl => ?_)
  have hl : lv_has ls 5 [(0, .ref (q 0)), (1, .int x1), (2, .int x2), (3, .ref qo)] := hl
  have X : zz_X D vwCl (zz_tyJ cI cZ cJ) A s s.heap [] (wS q cI cZ σ ++ [(qo, .inl (cJ, 1, .inr (.inl o)))]) := X
  refine lv_aload_n hx hb zd_La_finding_0 rfl (lv_at hl 3 rfl) ?_
  refine lv_iconst (v := 0) hx hb zd_La_finding_1 (by decide) ?_
  refine lv_aload_n hx hb zd_La_finding_2 rfl (lv_at hl 0 rfl) ?_
  refine lv_iload_n hx hb zd_La_finding_3 rfl (lv_at hl 1 rfl) ?_
  refine lv_iload_n hx hb zd_La_finding_4 rfl (lv_at hl 2 rfl) ?_
  refine zr_fc (w := wS q cI cZ) (σ := σ) (As := [.int x1, .int x2]) (rest := [.int 0, .ref qo]) (q0 := 0) (ci := 0) hx hb hml hown hts hl.1 hok hstat X [0, 1] rfl (zk_SW_finding l hfl D q cI cZ hf) zkw_SW_finding zl_La_38 rfl rfl (Nat.le_of_ble_eq_true rfl) rfl rfl ⟨rfl, rfl⟩ ⟨Nat.le_of_ble_eq_true rfl, Nat.le_of_ble_eq_true rfl⟩ ⟨Nat.le_of_ble_eq_true rfl, Nat.le_of_ble_eq_true rfl⟩ zd_La_finding_5 (fun h0 H locs X => ?_) (fun h0 H locs x cell X hcx hvx hfx => ?_)
  · refine W.eq (g2 := F0 m 8 ls [.int out.2.1, .int 0, .ref qo]) rfl ?_
    refine lv_i2l (v := out.2.1.toInt64) hx hb zd_La_finding_8 rfl ?_
    refine va_last hx hb X.1 X.2.1 X.2.2.1 X.2.2.2.1 31 2 rfl rfl (by unfold vp_in; decide) zd_La_finding_9 (fun H locs hP hD hS => ?_)
    have X : zz_X D vwCl (zz_tyJ cI cZ cJ) A s H locs (wH q cI cZ qo cJ (out.2.2, vp_updL o 0 out.2.1.toInt64)) := ⟨X.1, hP, hD, hS, X.2.2.2.2⟩
    refine lv_goto (tgt := 21) hx hb zd_La_finding_10 (by decide) ?_
    refine lv_iconst (v := 0) hx hb zd_La_finding_21 (by decide) ?_
    exact zr_hret hx hb hr hlocks X (by simp [h0, zh_n]) zd_La_finding_22
  · have X : zz_X D vwCl (zz_tyJ cI cZ cJ) A s H locs (wH q cI cZ qo cJ (out.2.2, o)) := X
    rcases hk with h1 | h1 | h1
    · exact absurd h1 h0
    · rw [h1] at hfx
      refine zr_ct (E := zt_ex 1) (pre := []) (rs := [(0, 10, 17, 41)]) (sp := 0) (en := 10) (hd := 13) (ct := 13) hown hts hok hcx hvx hfx htab rfl ⟨by decide, by decide⟩ (by decide) zx_La_13 (by decide +kernel) (fun y hy => by cases hy) ?_
      refine lv_astore (lv' := [(4, .ref x), (0, .ref (q 0)), (1, .int x1), (2, .int x2), (3, .ref qo)]) hx hb zd_La_finding_13 hl (by decide) rfl (fun ls hl => ?_)
      refine lv_iconst (v := 1) hx hb zd_La_finding_15 (by decide) ?_
      exact zr_hret hx hb hr hlocks X (by simp [h1, zh_n]) zd_La_finding_16
    · rw [h1] at hfx
      refine zr_ct (E := zt_ex 4) (pre := [(0, 10, 13, 13)]) (rs := []) (sp := 0) (en := 10) (hd := 17) (ct := 41) hown hts hok hcx hvx hfx htab rfl ⟨by decide, by decide⟩ (by decide) zx_La_41 (by decide +kernel) (fun y hy => by
      simp only [List.mem_cons, List.not_mem_nil, or_false] at hy
      rcases hy with rfl
      · exact ⟨⟨by decide, by decide⟩, by decide, zt_ex 1, zx_La_13, by decide +kernel⟩) ?_
      refine lv_astore (lv' := [(4, .ref x), (0, .ref (q 0)), (1, .int x1), (2, .int x2), (3, .ref qo)]) hx hb zd_La_finding_17 hl (by decide) rfl (fun ls hl => ?_)
      refine lv_iconst (v := 2) hx hb zd_La_finding_19 (by decide) ?_
      exact zr_hret hx hb hr hlocks X (by simp [h1, zh_n]) zd_La_finding_20

set_option maxRecDepth 100000 in
set_option maxHeartbeats 4000000 in
theorem zk_La_block (l : Launch) (hfl : l.flags = flags0) (D : va_G) (q : Nat → Nat) (cI cZ : ClassId) (qo : Nat) (cJ : ClassId) {σ : St} {o : LO} {x1 x2 : Int32} {out : TO} (hf : zf_SW_block σ x1 x2 = some out) (hk : out.1 = 0 ∨ out.1 = 1 ∨ out.1 = 4) :
    zH l D vwCl (zz_tyJ cI cZ cJ) (wH q cI cZ qo cJ) zy_La_block (.codeWith zy_La_block zc_La_block 5 (some .int) zhh_La_block :: zz_WS) zm_La_block [.ref (q 0), .int x1, .int x2, .ref qo] (σ, o) (zh_n out.1, (out.2.2, if out.1 = 0 then vp_updL o 0 out.2.1.toInt64 else o)) := by
  refine zH_of (by decide +kernel) (Nat.le_of_ble_eq_true rfl) (fun p e s m below meth c A ls hx hb hml hown hts hr hlocks htab hok hstat X hl => ?_)
  have hl : lv_has ls 5 [(0, .ref (q 0)), (1, .int x1), (2, .int x2), (3, .ref qo)] := hl
  have X : zz_X D vwCl (zz_tyJ cI cZ cJ) A s s.heap [] (wS q cI cZ σ ++ [(qo, .inl (cJ, 1, .inr (.inl o)))]) := X
  refine lv_aload_n hx hb zd_La_block_0 rfl (lv_at hl 3 rfl) ?_
  refine lv_iconst (v := 0) hx hb zd_La_block_1 (by decide) ?_
  refine lv_aload_n hx hb zd_La_block_2 rfl (lv_at hl 0 rfl) ?_
  refine lv_iload_n hx hb zd_La_block_3 rfl (lv_at hl 1 rfl) ?_
  refine lv_iload_n hx hb zd_La_block_4 rfl (lv_at hl 2 rfl) ?_
  refine zr_fc (w := wS q cI cZ) (σ := σ) (As := [.int x1, .int x2]) (rest := [.int 0, .ref qo]) (q0 := 0) (ci := 0) hx hb hml hown hts hl.1 hok hstat X [0, 1] rfl (zk_SW_block l hfl D q cI cZ hf) zkw_SW_block zl_La_43 rfl rfl (Nat.le_of_ble_eq_true rfl) rfl rfl ⟨rfl, rfl⟩ ⟨Nat.le_of_ble_eq_true rfl, Nat.le_of_ble_eq_true rfl⟩ ⟨Nat.le_of_ble_eq_true rfl, Nat.le_of_ble_eq_true rfl⟩ zd_La_block_5 (fun h0 H locs X => ?_) (fun h0 H locs x cell X hcx hvx hfx => ?_)
  · refine W.eq (g2 := F0 m 8 ls [.int out.2.1, .int 0, .ref qo]) rfl ?_
    refine lv_i2l (v := out.2.1.toInt64) hx hb zd_La_block_8 rfl ?_
    refine va_last hx hb X.1 X.2.1 X.2.2.1 X.2.2.2.1 31 2 rfl rfl (by unfold vp_in; decide) zd_La_block_9 (fun H locs hP hD hS => ?_)
    have X : zz_X D vwCl (zz_tyJ cI cZ cJ) A s H locs (wH q cI cZ qo cJ (out.2.2, vp_updL o 0 out.2.1.toInt64)) := ⟨X.1, hP, hD, hS, X.2.2.2.2⟩
    refine lv_goto (tgt := 21) hx hb zd_La_block_10 (by decide) ?_
    refine lv_iconst (v := 0) hx hb zd_La_block_21 (by decide) ?_
    exact zr_hret hx hb hr hlocks X (by simp [h0, zh_n]) zd_La_block_22
  · have X : zz_X D vwCl (zz_tyJ cI cZ cJ) A s H locs (wH q cI cZ qo cJ (out.2.2, o)) := X
    rcases hk with h1 | h1 | h1
    · exact absurd h1 h0
    · rw [h1] at hfx
      refine zr_ct (E := zt_ex 1) (pre := []) (rs := [(0, 10, 17, 41)]) (sp := 0) (en := 10) (hd := 13) (ct := 13) hown hts hok hcx hvx hfx htab rfl ⟨by decide, by decide⟩ (by decide) zx_La_13 (by decide +kernel) (fun y hy => by cases hy) ?_
      refine lv_astore (lv' := [(4, .ref x), (0, .ref (q 0)), (1, .int x1), (2, .int x2), (3, .ref qo)]) hx hb zd_La_block_13 hl (by decide) rfl (fun ls hl => ?_)
      refine lv_iconst (v := 1) hx hb zd_La_block_15 (by decide) ?_
      exact zr_hret hx hb hr hlocks X (by simp [h1, zh_n]) zd_La_block_16
    · rw [h1] at hfx
      refine zr_ct (E := zt_ex 4) (pre := [(0, 10, 13, 13)]) (rs := []) (sp := 0) (en := 10) (hd := 17) (ct := 41) hown hts hok hcx hvx hfx htab rfl ⟨by decide, by decide⟩ (by decide) zx_La_41 (by decide +kernel) (fun y hy => by
      simp only [List.mem_cons, List.not_mem_nil, or_false] at hy
      rcases hy with rfl
      · exact ⟨⟨by decide, by decide⟩, by decide, zt_ex 1, zx_La_13, by decide +kernel⟩) ?_
      refine lv_astore (lv' := [(4, .ref x), (0, .ref (q 0)), (1, .int x1), (2, .int x2), (3, .ref qo)]) hx hb zd_La_block_17 hl (by decide) rfl (fun ls hl => ?_)
      refine lv_iconst (v := 2) hx hb zd_La_block_19 (by decide) ?_
      exact zr_hret hx hb hr hlocks X (by simp [h1, zh_n]) zd_La_block_20

set_option maxRecDepth 100000 in
set_option maxHeartbeats 4000000 in
theorem zk_La_leaks (l : Launch) (hfl : l.flags = flags0) (D : va_G) (q : Nat → Nat) (cI cZ : ClassId) (qo : Nat) (cJ : ClassId) {σ : St} {o : LO} {x1 : Int32} {out : TO} (hf : zf_SW_leaks σ x1 = some out) (hk : out.1 = 0 ∨ out.1 = 1) :
    zH l D vwCl (zz_tyJ cI cZ cJ) (wH q cI cZ qo cJ) zy_La_leaks (.codeWith zy_La_leaks zc_La_leaks 4 (some .int) zhh_La_leaks :: zz_WS) zm_La_leaks [.ref (q 0), .int x1, .ref qo] (σ, o) (zh_n out.1, (out.2.2, if out.1 = 0 then vp_updL o 0 out.2.1.toInt64 else o)) := by
  refine zH_of (by decide +kernel) (Nat.le_of_ble_eq_true rfl) (fun p e s m below meth c A ls hx hb hml hown hts hr hlocks htab hok hstat X hl => ?_)
  have hl : lv_has ls 4 [(0, .ref (q 0)), (1, .int x1), (2, .ref qo)] := hl
  have X : zz_X D vwCl (zz_tyJ cI cZ cJ) A s s.heap [] (wS q cI cZ σ ++ [(qo, .inl (cJ, 1, .inr (.inl o)))]) := X
  refine lv_aload_n hx hb zd_La_leaks_0 rfl (lv_at hl 2 rfl) ?_
  refine lv_iconst (v := 0) hx hb zd_La_leaks_1 (by decide) ?_
  refine lv_aload_n hx hb zd_La_leaks_2 rfl (lv_at hl 0 rfl) ?_
  refine lv_iload_n hx hb zd_La_leaks_3 rfl (lv_at hl 1 rfl) ?_
  refine zr_fc (w := wS q cI cZ) (σ := σ) (As := [.int x1]) (rest := [.int 0, .ref qo]) (q0 := 0) (ci := 0) hx hb hml hown hts hl.1 hok hstat X [0, 1] rfl (zk_SW_leaks l hfl D q cI cZ hf) zkw_SW_leaks zl_La_46 rfl rfl (Nat.le_of_ble_eq_true rfl) rfl rfl ⟨rfl, rfl⟩ ⟨Nat.le_of_ble_eq_true rfl, Nat.le_of_ble_eq_true rfl⟩ ⟨Nat.le_of_ble_eq_true rfl, Nat.le_of_ble_eq_true rfl⟩ zd_La_leaks_4 (fun h0 H locs X => ?_) (fun h0 H locs x cell X hcx hvx hfx => ?_)
  · refine W.eq (g2 := F0 m 7 ls [.int out.2.1, .int 0, .ref qo]) rfl ?_
    refine lv_i2l (v := out.2.1.toInt64) hx hb zd_La_leaks_7 rfl ?_
    refine va_last hx hb X.1 X.2.1 X.2.2.1 X.2.2.2.1 31 2 rfl rfl (by unfold vp_in; decide) zd_La_leaks_8 (fun H locs hP hD hS => ?_)
    have X : zz_X D vwCl (zz_tyJ cI cZ cJ) A s H locs (wH q cI cZ qo cJ (out.2.2, vp_updL o 0 out.2.1.toInt64)) := ⟨X.1, hP, hD, hS, X.2.2.2.2⟩
    refine lv_goto (tgt := 15) hx hb zd_La_leaks_9 (by decide) ?_
    refine lv_iconst (v := 0) hx hb zd_La_leaks_15 (by decide) ?_
    exact zr_hret hx hb hr hlocks X (by simp [h0, zh_n]) zd_La_leaks_16
  · have X : zz_X D vwCl (zz_tyJ cI cZ cJ) A s H locs (wH q cI cZ qo cJ (out.2.2, o)) := X
    rcases hk with h1 | h1
    · exact absurd h1 h0
    · rw [h1] at hfx
      refine zr_ct (E := zt_ex 1) (pre := []) (rs := []) (sp := 0) (en := 9) (hd := 12) (ct := 13) hown hts hok hcx hvx hfx htab rfl ⟨by decide, by decide⟩ (by decide) zx_La_13 (by decide +kernel) (fun y hy => by cases hy) ?_
      refine lv_astore_n (lv' := [(3, .ref x), (0, .ref (q 0)), (1, .int x1), (2, .ref qo)]) hx hb zd_La_leaks_12 rfl hl (by decide) rfl (fun ls hl => ?_)
      refine lv_iconst (v := 1) hx hb zd_La_leaks_13 (by decide) ?_
      exact zr_hret hx hb hr hlocks X (by simp [h1, zh_n]) zd_La_leaks_14

