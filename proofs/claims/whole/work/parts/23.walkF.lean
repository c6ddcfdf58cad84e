set_option maxRecDepth 100000 in
set_option maxHeartbeats 4000000 in
theorem zk_SW_code (l : Launch) (hfl : l.flags = flags0) (D : va_G) (q : Nat → Nat) (cI cZ : ClassId) {σ : St} {x1 x2 x3 x4 x5 x6 : Int32} {out : TO} (hf : zf_SW_code σ x1 x2 x3 x4 x5 x6 = some out) : zF true l D vwCl (zz_tys cI cZ) (wS q cI cZ) zy_SW_code (.code zy_SW_code zc_SW_code 7 none :: zz_WS) zm_SW_code [.ref (q 0), .int x1, .int x2, .int x3, .int x4, .int x5, .int x6] σ out := by
  refine zF_of (by decide +kernel) (Nat.le_of_ble_eq_true rfl) (fun p e s m below meth c A ls hx hb hml hown hts hr hlocks hne hok hstat X hl => ?_)
  have hl : lv_has ls 7 [(0, .ref (q 0)), (1, .int x1), (2, .int x2), (3, .int x3), (4, .int x4), (5, .int x5), (6, .int x6)] := hl
  unfold zf_SW_code at hf
  refine lv_iload_n hx hb zd_SW_code_0 rfl (lv_at hl 1 rfl) ?_
  obtain ⟨r1, h19, hf⟩ := Option.bind_eq_some_iff.mp hf
  refine zr_csP (As := [.int x1]) (rest := []) hx hb hml hown hts hl.1 X (zk_Pr_has l D q cI cZ h19) zkw_Pr_has zl_SW_73 rfl rfl (Nat.le_of_ble_eq_true rfl) ⟨rfl, rfl⟩ ⟨Nat.le_of_ble_eq_true rfl, Nat.le_of_ble_eq_true rfl⟩ zd_SW_code_1 (fun H locs X => ?_)
  refine lv_if_eq (tgt := 39) hx hb zd_SW_code_4 (by decide) (fun g18 => ?_) (fun g18 => ?_)
  · rw [if_pos g18] at hf
    exact zr_thr (k := 1) (by decide) hx hb hml hl.1 hown hts hlocks hne hok hstat hfl X zx_SW_82 zxi_1 zxj_1 zxk_SW_84 ⟨by decide, by decide, by decide, by decide⟩ zd_SW_code_39 zd_SW_code_42 zd_SW_code_43 zd_SW_code_46 (Option.some.inj hf)
  · rw [if_neg g18] at hf
    refine lv_iload_n hx hb zd_SW_code_7 rfl (lv_at hl 2 rfl) ?_
    refine lv_bipush (v := 18) hx hb zd_SW_code_8 (by decide) ?_
    obtain ⟨r2, h17, hf⟩ := Option.bind_eq_some_iff.mp hf
    refine zr_csP (As := [.int x2, .int (18 : Int32)]) (rest := []) hx hb hml hown hts hl.1 X (zk_SW_isWithin l D q cI cZ h17) zkw_SW_isWithin zl_SW_77 rfl rfl (Nat.le_of_ble_eq_true rfl) ⟨rfl, rfl⟩ ⟨Nat.le_of_ble_eq_true rfl, Nat.le_of_ble_eq_true rfl⟩ zd_SW_code_10 (fun H locs X => ?_)
    refine lv_if_eq (tgt := 39) hx hb zd_SW_code_13 (by decide) (fun g16 => ?_) (fun g16 => ?_)
    · rw [if_pos g16] at hf
      exact zr_thr (k := 1) (by decide) hx hb hml hl.1 hown hts hlocks hne hok hstat hfl X zx_SW_82 zxi_1 zxj_1 zxk_SW_84 ⟨by decide, by decide, by decide, by decide⟩ zd_SW_code_39 zd_SW_code_42 zd_SW_code_43 zd_SW_code_46 (Option.some.inj hf)
    · rw [if_neg g16] at hf
      refine lv_iload_n hx hb zd_SW_code_16 rfl (lv_at hl 3 rfl) ?_
      obtain ⟨r3, h15, hf⟩ := Option.bind_eq_some_iff.mp hf
      refine zr_csP (As := [.int x3]) (rest := []) hx hb hml hown hts hl.1 X (zk_Re_has l D q cI cZ h15) zkw_Re_has zl_SW_81 rfl rfl (Nat.le_of_ble_eq_true rfl) ⟨rfl, rfl⟩ ⟨Nat.le_of_ble_eq_true rfl, Nat.le_of_ble_eq_true rfl⟩ zd_SW_code_17 (fun H locs X => ?_)
      refine lv_if_eq (tgt := 39) hx hb zd_SW_code_20 (by decide) (fun g14 => ?_) (fun g14 => ?_)
      · rw [if_pos g14] at hf
        exact zr_thr (k := 1) (by decide) hx hb hml hl.1 hown hts hlocks hne hok hstat hfl X zx_SW_82 zxi_1 zxj_1 zxk_SW_84 ⟨by decide, by decide, by decide, by decide⟩ zd_SW_code_39 zd_SW_code_42 zd_SW_code_43 zd_SW_code_46 (Option.some.inj hf)
      · rw [if_neg g14] at hf
        refine lv_iload hx hb zd_SW_code_23 (lv_at hl 4 rfl) ?_
        obtain ⟨r4, h13, hf⟩ := Option.bind_eq_some_iff.mp hf
        refine zr_csP (As := [.int x4]) (rest := []) hx hb hml hown hts hl.1 X (zk_Re_has l D q cI cZ h13) zkw_Re_has zl_SW_81 rfl rfl (Nat.le_of_ble_eq_true rfl) ⟨rfl, rfl⟩ ⟨Nat.le_of_ble_eq_true rfl, Nat.le_of_ble_eq_true rfl⟩ zd_SW_code_25 (fun H locs X => ?_)
        refine lv_if_eq (tgt := 39) hx hb zd_SW_code_28 (by decide) (fun g12 => ?_) (fun g12 => ?_)
        · rw [if_pos g12] at hf
          exact zr_thr (k := 1) (by decide) hx hb hml hl.1 hown hts hlocks hne hok hstat hfl X zx_SW_82 zxi_1 zxj_1 zxk_SW_84 ⟨by decide, by decide, by decide, by decide⟩ zd_SW_code_39 zd_SW_code_42 zd_SW_code_43 zd_SW_code_46 (Option.some.inj hf)
        · rw [if_neg g12] at hf
          refine lv_iload hx hb zd_SW_code_31 (lv_at hl 5 rfl) ?_
          obtain ⟨r5, h11, hf⟩ := Option.bind_eq_some_iff.mp hf
          refine zr_csP (As := [.int x5]) (rest := []) hx hb hml hown hts hl.1 X (zk_Re_has l D q cI cZ h11) zkw_Re_has zl_SW_81 rfl rfl (Nat.le_of_ble_eq_true rfl) ⟨rfl, rfl⟩ ⟨Nat.le_of_ble_eq_true rfl, Nat.le_of_ble_eq_true rfl⟩ zd_SW_code_33 (fun H locs X => ?_)
          refine lv_if_ne (tgt := 47) hx hb zd_SW_code_36 (by decide) (fun g10 => ?_) (fun g10 => ?_)
          · rw [if_neg g10] at hf
            refine lv_aload_n hx hb zd_SW_code_47 rfl (lv_at hl 0 rfl) ?_
            refine zg_SW_program hx hb hts hown X zd_SW_code_48 ?_
            refine lv_iload_n hx hb zd_SW_code_51 rfl (lv_at hl 1 rfl) ?_
            refine lv_iload_n hx hb zd_SW_code_52 rfl (lv_at hl 2 rfl) ?_
            refine lv_iload_n hx hb zd_SW_code_53 rfl (lv_at hl 3 rfl) ?_
            refine lv_iload hx hb zd_SW_code_54 (lv_at hl 4 rfl) ?_
            refine lv_iload hx hb zd_SW_code_56 (lv_at hl 5 rfl) ?_
            refine lv_iload hx hb zd_SW_code_58 (lv_at hl 6 rfl) ?_
            obtain ⟨u6, h9, hf⟩ := Option.bind_eq_some_iff.mp hf
            refine zr_cvV (As := [.int x1, .int x2, .int x3, .int x4, .int x5, .int x6]) (rest := []) (q0 := 8) (ci := 3) hx hb hml hown hts hl.1 X (zk_Pr_write l D q cI cZ h9) zkw_Pr_write zl_SW_85 rfl rfl (Nat.le_of_ble_eq_true rfl) rfl rfl ⟨rfl, rfl⟩ ⟨Nat.le_of_ble_eq_true rfl, Nat.le_of_ble_eq_true rfl⟩ zd_SW_code_60 (fun H locs X => ?_)
            refine lv_aload_n hx hb zd_SW_code_63 rfl (lv_at hl 0 rfl) ?_
            refine zg_SW_pieces hx hb hts hown X zd_SW_code_64 ?_
            refine lv_iload_n hx hb zd_SW_code_67 rfl (lv_at hl 1 rfl) ?_
            obtain ⟨u7, h8, hf⟩ := Option.bind_eq_some_iff.mp hf
            refine zr_cvV (As := [.int x1]) (rest := []) (q0 := 14) (ci := 4) hx hb hml hown hts hl.1 X (zk_Pi_throwAwayWith l D q cI cZ h8) zkw_Pi_throwAwayWith zl_SW_89 rfl rfl (Nat.le_of_ble_eq_true rfl) rfl rfl ⟨rfl, rfl⟩ ⟨Nat.le_of_ble_eq_true rfl, Nat.le_of_ble_eq_true rfl⟩ zd_SW_code_68 (fun H locs X => ?_)
            exact zr_gv hx hb hr hlocks X (Option.some.inj hf) zd_SW_code_71
          · rw [if_pos g10] at hf
            exact zr_thr (k := 1) (by decide) hx hb hml hl.1 hown hts hlocks hne hok hstat hfl X zx_SW_82 zxi_1 zxj_1 zxk_SW_84 ⟨by decide, by decide, by decide, by decide⟩ zd_SW_code_39 zd_SW_code_42 zd_SW_code_43 zd_SW_code_46 (Option.some.inj hf)

set_option maxRecDepth 100000 in
set_option maxHeartbeats 4000000 in
theorem zk_SW_start (l : Launch) (hfl : l.flags = flags0) (D : va_G) (q : Nat → Nat) (cI cZ : ClassId) {σ : St} {x1 : Int32} {out : TO} (hf : zf_SW_start σ x1 = some out) : zF true l D vwCl (zz_tys cI cZ) (wS q cI cZ) zy_SW_start (.code zy_SW_start zc_SW_start 2 none :: zz_WS) zm_SW_start [.ref (q 0), .int x1] σ out := by
  refine zF_of (by decide +kernel) (Nat.le_of_ble_eq_true rfl) (fun p e s m below meth c A ls hx hb hml hown hts hr hlocks hne hok hstat X hl => ?_)
  have hl : lv_has ls 2 [(0, .ref (q 0)), (1, .int x1)] := hl
  unfold zf_SW_start at hf
  refine lv_iload_n hx hb zd_SW_start_0 rfl (lv_at hl 1 rfl) ?_
  obtain ⟨r1, h5, hf⟩ := Option.bind_eq_some_iff.mp hf
  refine zr_csP (As := [.int x1]) (rest := []) hx hb hml hown hts hl.1 X (zk_Pr_has l D q cI cZ h5) zkw_Pr_has zl_SW_73 rfl rfl (Nat.le_of_ble_eq_true rfl) ⟨rfl, rfl⟩ ⟨Nat.le_of_ble_eq_true rfl, Nat.le_of_ble_eq_true rfl⟩ zd_SW_start_1 (fun H locs X => ?_)
  refine lv_if_ne (tgt := 15) hx hb zd_SW_start_4 (by decide) (fun g4 => ?_) (fun g4 => ?_)
  · rw [if_neg g4] at hf
    refine lv_aload_n hx hb zd_SW_start_15 rfl (lv_at hl 0 rfl) ?_
    refine zg_SW_machine hx hb hts hown X zd_SW_start_16 ?_
    refine lv_iload_n hx hb zd_SW_start_19 rfl (lv_at hl 1 rfl) ?_
    obtain ⟨u2, h3, hf⟩ := Option.bind_eq_some_iff.mp hf
    refine zr_cvV (As := [.int x1]) (rest := []) (q0 := 30) (ci := 8) hx hb hml hown hts hl.1 X (zk_Ma_beginAt l D q cI cZ h3) zkw_Ma_beginAt zl_SW_93 rfl rfl (Nat.le_of_ble_eq_true rfl) rfl rfl ⟨rfl, rfl⟩ ⟨Nat.le_of_ble_eq_true rfl, Nat.le_of_ble_eq_true rfl⟩ zd_SW_start_20 (fun H locs X => ?_)
    exact zr_gv hx hb hr hlocks X (Option.some.inj hf) zd_SW_start_23
  · rw [if_pos g4] at hf
    exact zr_thr (k := 1) (by decide) hx hb hml hl.1 hown hts hlocks hne hok hstat hfl X zx_SW_82 zxi_1 zxj_1 zxk_SW_84 ⟨by decide, by decide, by decide, by decide⟩ zd_SW_start_7 zd_SW_start_10 zd_SW_start_11 zd_SW_start_14 (Option.some.inj hf)

set_option maxRecDepth 100000 in
set_option maxHeartbeats 4000000 in
theorem zk_SW_run (l : Launch) (hfl : l.flags = flags0) (D : va_G) (q : Nat → Nat) (cI cZ : ClassId) {σ : St} {x1 : Int32} {out : TO} (hf : zf_SW_run σ x1 = some out) : zF false l D vwCl (zz_tys cI cZ) (wS q cI cZ) zy_SW_run (.code zy_SW_run zc_SW_run 3 (some .int) :: zz_WS) zm_SW_run [.ref (q 0), .int x1] σ out := by
  refine zF_of (by decide +kernel) (Nat.le_of_ble_eq_true rfl) (fun p e s m below meth c A ls hx hb hml hown hts hr hlocks hne hok hstat X hl => ?_)
  have hl : lv_has ls 3 [(0, .ref (q 0)), (1, .int x1)] := hl
  unfold zf_SW_run at hf
  refine lv_iload_n hx hb zd_SW_run_0 rfl (lv_at hl 1 rfl) ?_
  refine lv_iconst (v := 1) hx hb zd_SW_run_1 (by decide) ?_
  refine lv_icmp_lt (tgt := 12) hx hb zd_SW_run_2 (by decide) (fun g10 => ?_) (fun g10 => ?_)
  · rw [if_pos g10] at hf
    exact zr_thr (k := 1) (by decide) hx hb hml hl.1 hown hts hlocks hne hok hstat hfl X zx_SW_82 zxi_1 zxj_1 zxk_SW_84 ⟨by decide, by decide, by decide, by decide⟩ zd_SW_run_12 zd_SW_run_15 zd_SW_run_16 zd_SW_run_19 (Option.some.inj hf)
  · rw [if_neg g10] at hf
    refine lv_iload_n hx hb zd_SW_run_5 rfl (lv_at hl 1 rfl) ?_
    refine lv_sipush (v := 200) hx hb zd_SW_run_6 (by decide) ?_
    refine lv_icmp_le (tgt := 20) hx hb zd_SW_run_9 (by decide) (fun g9 => ?_) (fun g9 => ?_)
    · rw [if_pos g9] at hf
      refine lv_aload_n hx hb zd_SW_run_20 rfl (lv_at hl 0 rfl) ?_
      refine zg_SW_machine hx hb hts hown X zd_SW_run_21 ?_
      obtain ⟨r1, h8, hf⟩ := Option.bind_eq_some_iff.mp hf
      refine zr_cvP (As := []) (rest := []) (q0 := 30) (ci := 8) hx hb hml hown hts hl.1 X (zk_Ma_isStopped l D q cI cZ h8) zkw_Ma_isStopped zl_SW_96 rfl rfl (Nat.le_of_ble_eq_true rfl) rfl rfl ⟨rfl, rfl⟩ ⟨Nat.le_of_ble_eq_true rfl, Nat.le_of_ble_eq_true rfl⟩ zd_SW_run_24 (fun H locs X => ?_)
      refine lv_if_eq (tgt := 38) hx hb zd_SW_run_27 (by decide) (fun g7 => ?_) (fun g7 => ?_)
      · rw [if_pos g7] at hf
        refine lv_aload_n hx hb zd_SW_run_38 rfl (lv_at hl 0 rfl) ?_
        refine zg_SW_machine hx hb hts hown X zd_SW_run_39 ?_
        refine lv_iload_n hx hb zd_SW_run_42 rfl (lv_at hl 1 rfl) ?_
        obtain ⟨u2, h6, hf⟩ := Option.bind_eq_some_iff.mp hf
        refine zr_cvI (As := [.int x1]) (rest := []) (q0 := 30) (ci := 8) hx hb hml hown hts hl.1 X (zk_Ma_perform l D q cI cZ h6) zkw_Ma_perform zl_SW_103 rfl rfl (Nat.le_of_ble_eq_true rfl) rfl rfl ⟨rfl, rfl⟩ ⟨Nat.le_of_ble_eq_true rfl, Nat.le_of_ble_eq_true rfl⟩ zd_SW_run_43 (fun H locs X => ?_)
        refine lv_istore_n (lv' := [(2, .int u2.1), (0, .ref (q 0)), (1, .int x1)]) hx hb zd_SW_run_46 rfl hl (by decide) rfl (fun ls hl => ?_)
        refine lv_aload_n hx hb zd_SW_run_47 rfl (lv_at hl 1 rfl) ?_
        refine zg_SW_machine hx hb hts hown X zd_SW_run_48 ?_
        obtain ⟨r3, h5, hf⟩ := Option.bind_eq_some_iff.mp hf
        refine zr_cvP (As := []) (rest := []) (q0 := 30) (ci := 8) hx hb hml hown hts hl.1 X (zk_Ma_hasFaulted l D q cI cZ h5) zkw_Ma_hasFaulted zl_SW_107 rfl rfl (Nat.le_of_ble_eq_true rfl) rfl rfl ⟨rfl, rfl⟩ ⟨Nat.le_of_ble_eq_true rfl, Nat.le_of_ble_eq_true rfl⟩ zd_SW_run_51 (fun H locs X => ?_)
        refine lv_if_eq (tgt := 65) hx hb zd_SW_run_54 (by decide) (fun g4 => ?_) (fun g4 => ?_)
        · rw [if_pos g4] at hf
          refine lv_iload_n hx hb zd_SW_run_65 rfl (lv_at hl 0 rfl) ?_
          exact zr_gi hx hb hr hlocks X (Option.some.inj hf) zd_SW_run_66
        · rw [if_neg g4] at hf
          exact zr_thr (k := 3) (by decide) hx hb hml hl.1 hown hts hlocks hne hok hstat hfl X zx_SW_110 zxi_3 zxj_3 zxk_SW_112 ⟨by decide, by decide, by decide, by decide⟩ zd_SW_run_57 zd_SW_run_60 zd_SW_run_61 zd_SW_run_64 (Option.some.inj hf)
      · rw [if_neg g7] at hf
        exact zr_thr (k := 2) (by decide) hx hb hml hl.1 hown hts hlocks hne hok hstat hfl X zx_SW_100 zxi_2 zxj_2 zxk_SW_102 ⟨by decide, by decide, by decide, by decide⟩ zd_SW_run_30 zd_SW_run_33 zd_SW_run_34 zd_SW_run_37 (Option.some.inj hf)
    · rw [if_neg g9] at hf
      exact zr_thr (k := 1) (by decide) hx hb hml hl.1 hown hts hlocks hne hok hstat hfl X zx_SW_82 zxi_1 zxj_1 zxk_SW_84 ⟨by decide, by decide, by decide, by decide⟩ zd_SW_run_12 zd_SW_run_15 zd_SW_run_16 zd_SW_run_19 (Option.some.inj hf)

set_option maxRecDepth 100000 in
set_option maxHeartbeats 4000000 in
theorem zk_SW_register (l : Launch) (hfl : l.flags = flags0) (D : va_G) (q : Nat → Nat) (cI cZ : ClassId) {σ : St} {x1 x2 : Int32} {out : TO} (hf : zf_SW_register σ x1 x2 = some out) : zF false l D vwCl (zz_tys cI cZ) (wS q cI cZ) zy_SW_register (.code zy_SW_register zc_SW_register 3 (some .int) :: zz_WS) zm_SW_register [.ref (q 0), .int x1, .int x2] σ out := by
  refine zF_of (by decide +kernel) (Nat.le_of_ble_eq_true rfl) (fun p e s m below meth c A ls hx hb hml hown hts hr hlocks hne hok hstat X hl => ?_)
  have hl : lv_has ls 3 [(0, .ref (q 0)), (1, .int x1), (2, .int x2)] := hl
  unfold zf_SW_register at hf
  refine lv_iload_n hx hb zd_SW_register_0 rfl (lv_at hl 1 rfl) ?_
  obtain ⟨r1, h11, hf⟩ := Option.bind_eq_some_iff.mp hf
  refine zr_csP (As := [.int x1]) (rest := []) hx hb hml hown hts hl.1 X (zk_Re_has l D q cI cZ h11) zkw_Re_has zl_SW_81 rfl rfl (Nat.le_of_ble_eq_true rfl) ⟨rfl, rfl⟩ ⟨Nat.le_of_ble_eq_true rfl, Nat.le_of_ble_eq_true rfl⟩ zd_SW_register_1 (fun H locs X => ?_)
  refine lv_if_eq (tgt := 15) hx hb zd_SW_register_4 (by decide) (fun g10 => ?_) (fun g10 => ?_)
  · rw [if_pos g10] at hf
    exact zr_thr (k := 1) (by decide) hx hb hml hl.1 hown hts hlocks hne hok hstat hfl X zx_SW_82 zxi_1 zxj_1 zxk_SW_84 ⟨by decide, by decide, by decide, by decide⟩ zd_SW_register_15 zd_SW_register_18 zd_SW_register_19 zd_SW_register_22 (Option.some.inj hf)
  · rw [if_neg g10] at hf
    refine lv_iload_n hx hb zd_SW_register_7 rfl (lv_at hl 2 rfl) ?_
    refine lv_iconst (v := 1) hx hb zd_SW_register_8 (by decide) ?_
    obtain ⟨r2, h9, hf⟩ := Option.bind_eq_some_iff.mp hf
    refine zr_csP (As := [.int x2, .int (1 : Int32)]) (rest := []) hx hb hml hown hts hl.1 X (zk_SW_isWithin l D q cI cZ h9) zkw_SW_isWithin zl_SW_77 rfl rfl (Nat.le_of_ble_eq_true rfl) ⟨rfl, rfl⟩ ⟨Nat.le_of_ble_eq_true rfl, Nat.le_of_ble_eq_true rfl⟩ zd_SW_register_9 (fun H locs X => ?_)
    refine lv_if_ne (tgt := 23) hx hb zd_SW_register_12 (by decide) (fun g8 => ?_) (fun g8 => ?_)
    · rw [if_neg g8] at hf
      refine lv_iload_n hx hb zd_SW_register_23 rfl (lv_at hl 2 rfl) ?_
      refine lv_if_ne (tgt := 38) hx hb zd_SW_register_24 (by decide) (fun g7 => ?_) (fun g7 => ?_)
      · rw [if_neg g7] at hf
        refine lv_aload_n hx hb zd_SW_register_38 rfl (lv_at hl 0 rfl) ?_
        refine zg_SW_registers hx hb hts hown X zd_SW_register_39 ?_
        refine lv_iload_n hx hb zd_SW_register_42 rfl (lv_at hl 1 rfl) ?_
        obtain ⟨r3, h4, hf⟩ := Option.bind_eq_some_iff.mp hf
        refine zr_cvP (As := [.int x1]) (rest := []) (q0 := 5) (ci := 2) hx hb hml hown hts hl.1 X (zk_Re_known l D q cI cZ h4) zkw_Re_known zl_SW_116 rfl rfl (Nat.le_of_ble_eq_true rfl) rfl rfl ⟨rfl, rfl⟩ ⟨Nat.le_of_ble_eq_true rfl, Nat.le_of_ble_eq_true rfl⟩ zd_SW_register_43 (fun H locs X => ?_)
        exact zr_gi hx hb hr hlocks X (Option.some.inj hf) zd_SW_register_46
      · rw [if_pos g7] at hf
        refine lv_aload_n hx hb zd_SW_register_27 rfl (lv_at hl 0 rfl) ?_
        refine zg_SW_registers hx hb hts hown X zd_SW_register_28 ?_
        refine lv_iload_n hx hb zd_SW_register_31 rfl (lv_at hl 1 rfl) ?_
        obtain ⟨r5, h6, hf⟩ := Option.bind_eq_some_iff.mp hf
        refine zr_cvP (As := [.int x1]) (rest := []) (q0 := 5) (ci := 2) hx hb hml hown hts hl.1 X (zk_Re_value l D q cI cZ h6) zkw_Re_value zl_SW_113 rfl rfl (Nat.le_of_ble_eq_true rfl) rfl rfl ⟨rfl, rfl⟩ ⟨Nat.le_of_ble_eq_true rfl, Nat.le_of_ble_eq_true rfl⟩ zd_SW_register_32 (fun H locs X => ?_)
        refine lv_goto (tgt := 46) hx hb zd_SW_register_35 (by decide) ?_
        exact zr_gi hx hb hr hlocks X (Option.some.inj hf) zd_SW_register_46
    · rw [if_pos g8] at hf
      exact zr_thr (k := 1) (by decide) hx hb hml hl.1 hown hts hlocks hne hok hstat hfl X zx_SW_82 zxi_1 zxj_1 zxk_SW_84 ⟨by decide, by decide, by decide, by decide⟩ zd_SW_register_15 zd_SW_register_18 zd_SW_register_19 zd_SW_register_22 (Option.some.inj hf)

set_option maxRecDepth 100000 in
set_option maxHeartbeats 4000000 in
theorem zk_SW_memory (l : Launch) (hfl : l.flags = flags0) (D : va_G) (q : Nat → Nat) (cI cZ : ClassId) {σ : St} {x1 x2 : Int32} {out : TO} (hf : zf_SW_memory σ x1 x2 = some out) : zF false l D vwCl (zz_tys cI cZ) (wS q cI cZ) zy_SW_memory (.code zy_SW_memory zc_SW_memory 3 (some .int) :: zz_WS) zm_SW_memory [.ref (q 0), .int x1, .int x2] σ out := by
  refine zF_of (by decide +kernel) (Nat.le_of_ble_eq_true rfl) (fun p e s m below meth c A ls hx hb hml hown hts hr hlocks hne hok hstat X hl => ?_)
  have hl : lv_has ls 3 [(0, .ref (q 0)), (1, .int x1), (2, .int x2)] := hl
  unfold zf_SW_memory at hf
  refine lv_iload_n hx hb zd_SW_memory_0 rfl (lv_at hl 1 rfl) ?_
  refine lv_iconst (v := 1) hx hb zd_SW_memory_1 (by decide) ?_
  obtain ⟨r1, h15, hf⟩ := Option.bind_eq_some_iff.mp hf
  refine zr_csP (As := [.int x1, .int (1 : Int32)]) (rest := []) hx hb hml hown hts hl.1 X (zk_Me_has l D q cI cZ h15) zkw_Me_has zl_SW_119 rfl rfl (Nat.le_of_ble_eq_true rfl) ⟨rfl, rfl⟩ ⟨Nat.le_of_ble_eq_true rfl, Nat.le_of_ble_eq_true rfl⟩ zd_SW_memory_2 (fun H locs X => ?_)
  refine lv_if_eq (tgt := 16) hx hb zd_SW_memory_5 (by decide) (fun g14 => ?_) (fun g14 => ?_)
  · rw [if_pos g14] at hf
    exact zr_thr (k := 1) (by decide) hx hb hml hl.1 hown hts hlocks hne hok hstat hfl X zx_SW_82 zxi_1 zxj_1 zxk_SW_84 ⟨by decide, by decide, by decide, by decide⟩ zd_SW_memory_16 zd_SW_memory_19 zd_SW_memory_20 zd_SW_memory_23 (Option.some.inj hf)
  · rw [if_neg g14] at hf
    refine lv_iload_n hx hb zd_SW_memory_8 rfl (lv_at hl 2 rfl) ?_
    refine lv_iconst (v := 2) hx hb zd_SW_memory_9 (by decide) ?_
    obtain ⟨r2, h13, hf⟩ := Option.bind_eq_some_iff.mp hf
    refine zr_csP (As := [.int x2, .int (2 : Int32)]) (rest := []) hx hb hml hown hts hl.1 X (zk_SW_isWithin l D q cI cZ h13) zkw_SW_isWithin zl_SW_77 rfl rfl (Nat.le_of_ble_eq_true rfl) ⟨rfl, rfl⟩ ⟨Nat.le_of_ble_eq_true rfl, Nat.le_of_ble_eq_true rfl⟩ zd_SW_memory_10 (fun H locs X => ?_)
    refine lv_if_ne (tgt := 24) hx hb zd_SW_memory_13 (by decide) (fun g12 => ?_) (fun g12 => ?_)
    · rw [if_neg g12] at hf
      refine lv_iload_n hx hb zd_SW_memory_24 rfl (lv_at hl 2 rfl) ?_
      by_cases g10 : x2 = (0 : Int32)
      · rw [if_pos g10] at hf
        refine lv_lookup (tgt := 52) hx hb zd_SW_memory_25 (by decide) (by rw [g10] <;> rfl) (by decide) ?_
        refine lv_aload_n hx hb zd_SW_memory_52 rfl (lv_at hl 0 rfl) ?_
        refine zg_SW_bytes hx hb hts hown X zd_SW_memory_53 ?_
        refine lv_iload_n hx hb zd_SW_memory_56 rfl (lv_at hl 1 rfl) ?_
        refine lv_iconst (v := 1) hx hb zd_SW_memory_57 (by decide) ?_
        obtain ⟨r8, h9, hf⟩ := Option.bind_eq_some_iff.mp hf
        refine zr_cvP (As := [.int x1, .int (1 : Int32)]) (rest := []) (q0 := 1) (ci := 1) hx hb hml hown hts hl.1 X (zk_Me_value l D q cI cZ h9) zkw_Me_value zl_SW_121 rfl rfl (Nat.le_of_ble_eq_true rfl) rfl rfl ⟨rfl, rfl⟩ ⟨Nat.le_of_ble_eq_true rfl, Nat.le_of_ble_eq_true rfl⟩ zd_SW_memory_58 (fun H locs X => ?_)
        exact zr_gi hx hb hr hlocks X (Option.some.inj hf) zd_SW_memory_61
      · rw [if_neg g10] at hf
        by_cases g11 : x2 = (1 : Int32)
        · rw [if_pos g11] at hf
          refine lv_lookup (tgt := 62) hx hb zd_SW_memory_25 (by decide) (by rw [g11] <;> rfl) (by decide) ?_
          refine lv_aload_n hx hb zd_SW_memory_62 rfl (lv_at hl 0 rfl) ?_
          refine zg_SW_bytes hx hb hts hown X zd_SW_memory_63 ?_
          refine lv_iload_n hx hb zd_SW_memory_66 rfl (lv_at hl 1 rfl) ?_
          refine lv_iconst (v := 1) hx hb zd_SW_memory_67 (by decide) ?_
          obtain ⟨r5, h7, hf⟩ := Option.bind_eq_some_iff.mp hf
          refine zr_cvP (As := [.int x1, .int (1 : Int32)]) (rest := []) (q0 := 1) (ci := 1) hx hb hml hown hts hl.1 X (zk_Me_firstClosed l D q cI cZ h7) zkw_Me_firstClosed zl_SW_124 rfl rfl (Nat.le_of_ble_eq_true rfl) rfl rfl ⟨rfl, rfl⟩ ⟨Nat.le_of_ble_eq_true rfl, Nat.le_of_ble_eq_true rfl⟩ zd_SW_memory_68 (fun H locs X => ?_)
          refine lv_iconst (v := -1) hx hb zd_SW_memory_71 (by decide) ?_
          refine lv_icmp_ne (tgt := 79) hx hb zd_SW_memory_72 (by decide) (fun g6 => ?_) (fun g6 => ?_)
          · rw [if_neg g6] at hf
            refine lv_iconst (v := 0) hx hb zd_SW_memory_79 (by decide) ?_
            exact zr_gi hx hb hr hlocks X (Option.some.inj hf) zd_SW_memory_80
          · rw [if_pos g6] at hf
            refine lv_iconst (v := 1) hx hb zd_SW_memory_75 (by decide) ?_
            refine lv_goto (tgt := 80) hx hb zd_SW_memory_76 (by decide) ?_
            exact zr_gi hx hb hr hlocks X (Option.some.inj hf) zd_SW_memory_80
        · rw [if_neg g11] at hf
          refine lv_lookup (tgt := 81) (off := 56) hx hb zd_SW_memory_25 (by decide) (zz_lk2 g10 (by decide) g11 (by decide)) (by decide) ?_
          refine lv_aload_n hx hb zd_SW_memory_81 rfl (lv_at hl 0 rfl) ?_
          refine zg_SW_bytes hx hb hts hown X zd_SW_memory_82 ?_
          refine lv_iload_n hx hb zd_SW_memory_85 rfl (lv_at hl 1 rfl) ?_
          refine lv_iconst (v := 1) hx hb zd_SW_memory_86 (by decide) ?_
          obtain ⟨r3, h4, hf⟩ := Option.bind_eq_some_iff.mp hf
          refine zr_cvP (As := [.int x1, .int (1 : Int32)]) (rest := []) (q0 := 1) (ci := 1) hx hb hml hown hts hl.1 X (zk_Me_known l D q cI cZ h4) zkw_Me_known zl_SW_127 rfl rfl (Nat.le_of_ble_eq_true rfl) rfl rfl ⟨rfl, rfl⟩ ⟨Nat.le_of_ble_eq_true rfl, Nat.le_of_ble_eq_true rfl⟩ zd_SW_memory_87 (fun H locs X => ?_)
          exact zr_gi hx hb hr hlocks X (Option.some.inj hf) zd_SW_memory_90
    · rw [if_pos g12] at hf
      exact zr_thr (k := 1) (by decide) hx hb hml hl.1 hown hts hlocks hne hok hstat hfl X zx_SW_82 zxi_1 zxj_1 zxk_SW_84 ⟨by decide, by decide, by decide, by decide⟩ zd_SW_memory_16 zd_SW_memory_19 zd_SW_memory_20 zd_SW_memory_23 (Option.some.inj hf)

set_option maxRecDepth 100000 in
set_option maxHeartbeats 4000000 in
theorem zk_SW_poke (l : Launch) (hfl : l.flags = flags0) (D : va_G) (q : Nat → Nat) (cI cZ : ClassId) {σ : St} {x1 x2 : Int32} {out : TO} (hf : zf_SW_poke σ x1 x2 = some out) : zF true l D vwCl (zz_tys cI cZ) (wS q cI cZ) zy_SW_poke (.code zy_SW_poke zc_SW_poke 3 none :: zz_WS) zm_SW_poke [.ref (q 0), .int x1, .int x2] σ out := by
  refine zF_of (by decide +kernel) (Nat.le_of_ble_eq_true rfl) (fun p e s m below meth c A ls hx hb hml hown hts hr hlocks hne hok hstat X hl => ?_)
  have hl : lv_has ls 3 [(0, .ref (q 0)), (1, .int x1), (2, .int x2)] := hl
  unfold zf_SW_poke at hf
  refine lv_iload_n hx hb zd_SW_poke_0 rfl (lv_at hl 1 rfl) ?_
  refine lv_iconst (v := 1) hx hb zd_SW_poke_1 (by decide) ?_
  obtain ⟨r1, h8, hf⟩ := Option.bind_eq_some_iff.mp hf
  refine zr_csP (As := [.int x1, .int (1 : Int32)]) (rest := []) hx hb hml hown hts hl.1 X (zk_Me_has l D q cI cZ h8) zkw_Me_has zl_SW_119 rfl rfl (Nat.le_of_ble_eq_true rfl) ⟨rfl, rfl⟩ ⟨Nat.le_of_ble_eq_true rfl, Nat.le_of_ble_eq_true rfl⟩ zd_SW_poke_2 (fun H locs X => ?_)
  refine lv_if_eq (tgt := 18) hx hb zd_SW_poke_5 (by decide) (fun g7 => ?_) (fun g7 => ?_)
  · rw [if_pos g7] at hf
    exact zr_thr (k := 1) (by decide) hx hb hml hl.1 hown hts hlocks hne hok hstat hfl X zx_SW_82 zxi_1 zxj_1 zxk_SW_84 ⟨by decide, by decide, by decide, by decide⟩ zd_SW_poke_18 zd_SW_poke_21 zd_SW_poke_22 zd_SW_poke_25 (Option.some.inj hf)
  · rw [if_neg g7] at hf
    refine lv_iload_n hx hb zd_SW_poke_8 rfl (lv_at hl 2 rfl) ?_
    refine lv_sipush (v := 255) hx hb zd_SW_poke_9 (by decide) ?_
    obtain ⟨r2, h6, hf⟩ := Option.bind_eq_some_iff.mp hf
    refine zr_csP (As := [.int x2, .int (255 : Int32)]) (rest := []) hx hb hml hown hts hl.1 X (zk_SW_isWithin l D q cI cZ h6) zkw_SW_isWithin zl_SW_77 rfl rfl (Nat.le_of_ble_eq_true rfl) ⟨rfl, rfl⟩ ⟨Nat.le_of_ble_eq_true rfl, Nat.le_of_ble_eq_true rfl⟩ zd_SW_poke_12 (fun H locs X => ?_)
    refine lv_if_ne (tgt := 26) hx hb zd_SW_poke_15 (by decide) (fun g5 => ?_) (fun g5 => ?_)
    · rw [if_neg g5] at hf
      refine lv_aload_n hx hb zd_SW_poke_26 rfl (lv_at hl 0 rfl) ?_
      refine zg_SW_bytes hx hb hts hown X zd_SW_poke_27 ?_
      refine lv_iload_n hx hb zd_SW_poke_30 rfl (lv_at hl 1 rfl) ?_
      refine lv_iconst (v := 1) hx hb zd_SW_poke_31 (by decide) ?_
      refine lv_iload_n hx hb zd_SW_poke_32 rfl (lv_at hl 2 rfl) ?_
      refine lv_bipush (v := 15) hx hb zd_SW_poke_33 (by decide) ?_
      obtain ⟨u3, h4, hf⟩ := Option.bind_eq_some_iff.mp hf
      refine zr_cvV (As := [.int x1, .int (1 : Int32), .int x2, .int (15 : Int32)]) (rest := []) (q0 := 1) (ci := 1) hx hb hml hown hts hl.1 X (zk_Me_put l D q cI cZ h4) zkw_Me_put zl_SW_131 rfl rfl (Nat.le_of_ble_eq_true rfl) rfl rfl ⟨rfl, rfl⟩ ⟨Nat.le_of_ble_eq_true rfl, Nat.le_of_ble_eq_true rfl⟩ zd_SW_poke_35 (fun H locs X => ?_)
      exact zr_gv hx hb hr hlocks X (Option.some.inj hf) zd_SW_poke_38
    · rw [if_pos g5] at hf
      exact zr_thr (k := 1) (by decide) hx hb hml hl.1 hown hts hlocks hne hok hstat hfl X zx_SW_82 zxi_1 zxj_1 zxk_SW_84 ⟨by decide, by decide, by decide, by decide⟩ zd_SW_poke_18 zd_SW_poke_21 zd_SW_poke_22 zd_SW_poke_25 (Option.some.inj hf)

set_option maxRecDepth 100000 in
set_option maxHeartbeats 4000000 in
theorem zk_SW_finding (l : Launch) (hfl : l.flags = flags0) (D : va_G) (q : Nat → Nat) (cI cZ : ClassId) {σ : St} {x1 x2 : Int32} {out : TO} (hf : zf_SW_finding σ x1 x2 = some out) : zF false l D vwCl (zz_tys cI cZ) (wS q cI cZ) zy_SW_finding (.code zy_SW_finding zc_SW_finding 3 (some .int) :: zz_WS) zm_SW_finding [.ref (q 0), .int x1, .int x2] σ out := by
  refine zF_of (by decide +kernel) (Nat.le_of_ble_eq_true rfl) (fun p e s m below meth c A ls hx hb hml hown hts hr hlocks hne hok hstat X hl => ?_)
  have hl : lv_has ls 3 [(0, .ref (q 0)), (1, .int x1), (2, .int x2)] := hl
  unfold zf_SW_finding at hf
  refine lv_iload_n hx hb zd_SW_finding_0 rfl (lv_at hl 2 rfl) ?_
  refine lv_iconst (v := 3) hx hb zd_SW_finding_1 (by decide) ?_
  obtain ⟨r1, h17, hf⟩ := Option.bind_eq_some_iff.mp hf
  refine zr_csP (As := [.int x2, .int (3 : Int32)]) (rest := []) hx hb hml hown hts hl.1 X (zk_SW_isWithin l D q cI cZ h17) zkw_SW_isWithin zl_SW_77 rfl rfl (Nat.le_of_ble_eq_true rfl) ⟨rfl, rfl⟩ ⟨Nat.le_of_ble_eq_true rfl, Nat.le_of_ble_eq_true rfl⟩ zd_SW_finding_2 (fun H locs X => ?_)
  refine lv_if_ne (tgt := 16) hx hb zd_SW_finding_5 (by decide) (fun g16 => ?_) (fun g16 => ?_)
  · rw [if_neg g16] at hf
    refine lv_aload_n hx hb zd_SW_finding_16 rfl (lv_at hl 0 rfl) ?_
    refine zg_SW_findings hx hb hts hown X zd_SW_finding_17 ?_
    refine lv_iload_n hx hb zd_SW_finding_20 rfl (lv_at hl 1 rfl) ?_
    obtain ⟨r2, h15, hf⟩ := Option.bind_eq_some_iff.mp hf
    refine zr_cvP (As := [.int x1]) (rest := []) (q0 := 16) (ci := 5) hx hb hml hown hts hl.1 X (zk_Fi_has l D q cI cZ h15) zkw_Fi_has zl_SW_135 rfl rfl (Nat.le_of_ble_eq_true rfl) rfl rfl ⟨rfl, rfl⟩ ⟨Nat.le_of_ble_eq_true rfl, Nat.le_of_ble_eq_true rfl⟩ zd_SW_finding_21 (fun H locs X => ?_)
    refine lv_if_ne (tgt := 35) hx hb zd_SW_finding_24 (by decide) (fun g14 => ?_) (fun g14 => ?_)
    · rw [if_neg g14] at hf
      refine lv_iload_n hx hb zd_SW_finding_35 rfl (lv_at hl 2 rfl) ?_
      by_cases g11 : x2 = (0 : Int32)
      · rw [if_pos g11] at hf
        refine lv_tableIn (tgt := 64) hx hb zd_SW_finding_36 (by rw [g11]; decide) (by rw [g11]; decide) (by rw [g11]; rfl) (by decide) ?_
        refine lv_aload_n hx hb zd_SW_finding_64 rfl (lv_at hl 0 rfl) ?_
        refine zg_SW_findings hx hb hts hown X zd_SW_finding_65 ?_
        refine lv_iload_n hx hb zd_SW_finding_68 rfl (lv_at hl 1 rfl) ?_
        obtain ⟨r9, h10, hf⟩ := Option.bind_eq_some_iff.mp hf
        refine zr_cvP (As := [.int x1]) (rest := []) (q0 := 16) (ci := 5) hx hb hml hown hts hl.1 X (zk_Fi_kind l D q cI cZ h10) zkw_Fi_kind zl_SW_139 rfl rfl (Nat.le_of_ble_eq_true rfl) rfl rfl ⟨rfl, rfl⟩ ⟨Nat.le_of_ble_eq_true rfl, Nat.le_of_ble_eq_true rfl⟩ zd_SW_finding_69 (fun H locs X => ?_)
        exact zr_gi hx hb hr hlocks X (Option.some.inj hf) zd_SW_finding_72
      · rw [if_neg g11] at hf
        by_cases g12 : x2 = (1 : Int32)
        · rw [if_pos g12] at hf
          refine lv_tableIn (tgt := 73) hx hb zd_SW_finding_36 (by rw [g12]; decide) (by rw [g12]; decide) (by rw [g12]; rfl) (by decide) ?_
          refine lv_aload_n hx hb zd_SW_finding_73 rfl (lv_at hl 0 rfl) ?_
          refine zg_SW_findings hx hb hts hown X zd_SW_finding_74 ?_
          refine lv_iload_n hx hb zd_SW_finding_77 rfl (lv_at hl 1 rfl) ?_
          obtain ⟨r7, h8, hf⟩ := Option.bind_eq_some_iff.mp hf
          refine zr_cvP (As := [.int x1]) (rest := []) (q0 := 16) (ci := 5) hx hb hml hown hts hl.1 X (zk_Fi_instruction l D q cI cZ h8) zkw_Fi_instruction zl_SW_142 rfl rfl (Nat.le_of_ble_eq_true rfl) rfl rfl ⟨rfl, rfl⟩ ⟨Nat.le_of_ble_eq_true rfl, Nat.le_of_ble_eq_true rfl⟩ zd_SW_finding_78 (fun H locs X => ?_)
          exact zr_gi hx hb hr hlocks X (Option.some.inj hf) zd_SW_finding_81
        · rw [if_neg g12] at hf
          by_cases g13 : x2 = (2 : Int32)
          · rw [if_pos g13] at hf
            refine lv_tableIn (tgt := 82) hx hb zd_SW_finding_36 (by rw [g13]; decide) (by rw [g13]; decide) (by rw [g13]; rfl) (by decide) ?_
            refine lv_aload_n hx hb zd_SW_finding_82 rfl (lv_at hl 0 rfl) ?_
            refine zg_SW_findings hx hb hts hown X zd_SW_finding_83 ?_
            refine lv_iload_n hx hb zd_SW_finding_86 rfl (lv_at hl 1 rfl) ?_
            obtain ⟨r5, h6, hf⟩ := Option.bind_eq_some_iff.mp hf
            refine zr_cvP (As := [.int x1]) (rest := []) (q0 := 16) (ci := 5) hx hb hml hown hts hl.1 X (zk_Fi_address l D q cI cZ h6) zkw_Fi_address zl_SW_145 rfl rfl (Nat.le_of_ble_eq_true rfl) rfl rfl ⟨rfl, rfl⟩ ⟨Nat.le_of_ble_eq_true rfl, Nat.le_of_ble_eq_true rfl⟩ zd_SW_finding_87 (fun H locs X => ?_)
            exact zr_gi hx hb hr hlocks X (Option.some.inj hf) zd_SW_finding_90
          · rw [if_neg g13] at hf
            refine lv_tableOut (tgt := 91) hx hb zd_SW_finding_36 (zz_out (fun k h1 h2 => ?_)) (by decide) ?_
            · have : k = 0 ∨ k = 1 ∨ k = 2 := by omega
              rcases this with rfl | rfl | rfl
              · exact fun hx => g11 (hx.trans (by decide))
              · exact fun hx => g12 (hx.trans (by decide))
              · exact fun hx => g13 (hx.trans (by decide))
            · refine lv_aload_n hx hb zd_SW_finding_91 rfl (lv_at hl 0 rfl) ?_
              refine zg_SW_findings hx hb hts hown X zd_SW_finding_92 ?_
              refine lv_iload_n hx hb zd_SW_finding_95 rfl (lv_at hl 1 rfl) ?_
              obtain ⟨r3, h4, hf⟩ := Option.bind_eq_some_iff.mp hf
              refine zr_cvP (As := [.int x1]) (rest := []) (q0 := 16) (ci := 5) hx hb hml hown hts hl.1 X (zk_Fi_times l D q cI cZ h4) zkw_Fi_times zl_SW_148 rfl rfl (Nat.le_of_ble_eq_true rfl) rfl rfl ⟨rfl, rfl⟩ ⟨Nat.le_of_ble_eq_true rfl, Nat.le_of_ble_eq_true rfl⟩ zd_SW_finding_96 (fun H locs X => ?_)
              exact zr_gi hx hb hr hlocks X (Option.some.inj hf) zd_SW_finding_99
    · rw [if_pos g14] at hf
      exact zr_thr (k := 4) (by decide) hx hb hml hl.1 hown hts hlocks hne hok hstat hfl X zx_SW_136 zxi_4 zxj_4 zxk_SW_138 ⟨by decide, by decide, by decide, by decide⟩ zd_SW_finding_27 zd_SW_finding_30 zd_SW_finding_31 zd_SW_finding_34 (Option.some.inj hf)
  · rw [if_pos g16] at hf
    exact zr_thr (k := 1) (by decide) hx hb hml hl.1 hown hts hlocks hne hok hstat hfl X zx_SW_82 zxi_1 zxj_1 zxk_SW_84 ⟨by decide, by decide, by decide, by decide⟩ zd_SW_finding_8 zd_SW_finding_11 zd_SW_finding_12 zd_SW_finding_15 (Option.some.inj hf)

set_option maxRecDepth 100000 in
set_option maxHeartbeats 4000000 in
theorem zk_SW_block (l : Launch) (hfl : l.flags = flags0) (D : va_G) (q : Nat → Nat) (cI cZ : ClassId) {σ : St} {x1 x2 : Int32} {out : TO} (hf : zf_SW_block σ x1 x2 = some out) : zF false l D vwCl (zz_tys cI cZ) (wS q cI cZ) zy_SW_block (.code zy_SW_block zc_SW_block 4 (some .int) :: zz_WS) zm_SW_block [.ref (q 0), .int x1, .int x2] σ out := by
  refine zF_of (by decide +kernel) (Nat.le_of_ble_eq_true rfl) (fun p e s m below meth c A ls hx hb hml hown hts hr hlocks hne hok hstat X hl => ?_)
  have hl : lv_has ls 4 [(0, .ref (q 0)), (1, .int x1), (2, .int x2)] := hl
  unfold zf_SW_block at hf
  refine lv_iload_n hx hb zd_SW_block_0 rfl (lv_at hl 2 rfl) ?_
  refine lv_iconst (v := 3) hx hb zd_SW_block_1 (by decide) ?_
  obtain ⟨r1, h20, hf⟩ := Option.bind_eq_some_iff.mp hf
  refine zr_csP (As := [.int x2, .int (3 : Int32)]) (rest := []) hx hb hml hown hts hl.1 X (zk_SW_isWithin l D q cI cZ h20) zkw_SW_isWithin zl_SW_77 rfl rfl (Nat.le_of_ble_eq_true rfl) ⟨rfl, rfl⟩ ⟨Nat.le_of_ble_eq_true rfl, Nat.le_of_ble_eq_true rfl⟩ zd_SW_block_2 (fun H locs X => ?_)
  refine lv_if_ne (tgt := 16) hx hb zd_SW_block_5 (by decide) (fun g19 => ?_) (fun g19 => ?_)
  · rw [if_neg g19] at hf
    refine lv_aload_n hx hb zd_SW_block_16 rfl (lv_at hl 0 rfl) ?_
    refine zg_SW_heap hx hb hts hown X zd_SW_block_17 ?_
    refine lv_iload_n hx hb zd_SW_block_20 rfl (lv_at hl 1 rfl) ?_
    obtain ⟨r2, h18, hf⟩ := Option.bind_eq_some_iff.mp hf
    refine zr_cvP (As := [.int x1]) (rest := []) (q0 := 21) (ci := 6) hx hb hml hown hts hl.1 X (zk_He_indexOfNumber l D q cI cZ h18) zkw_He_indexOfNumber zl_SW_151 rfl rfl (Nat.le_of_ble_eq_true rfl) rfl rfl ⟨rfl, rfl⟩ ⟨Nat.le_of_ble_eq_true rfl, Nat.le_of_ble_eq_true rfl⟩ zd_SW_block_21 (fun H locs X => ?_)
    refine lv_istore_n (lv' := [(3, .int r2), (0, .ref (q 0)), (1, .int x1), (2, .int x2)]) hx hb zd_SW_block_24 rfl hl (by decide) rfl (fun ls hl => ?_)
    refine lv_iload_n hx hb zd_SW_block_25 rfl (lv_at hl 0 rfl) ?_
    refine lv_iconst (v := -1) hx hb zd_SW_block_26 (by decide) ?_
    refine lv_icmp_ne (tgt := 38) hx hb zd_SW_block_27 (by decide) (fun g17 => ?_) (fun g17 => ?_)
    · rw [if_neg g17] at hf
      refine lv_iload_n hx hb zd_SW_block_38 rfl (lv_at hl 3 rfl) ?_
      by_cases g14 : x2 = (0 : Int32)
      · rw [if_pos g14] at hf
        refine lv_tableIn (tgt := 64) hx hb zd_SW_block_39 (by rw [g14]; decide) (by rw [g14]; decide) (by rw [g14]; rfl) (by decide) ?_
        refine lv_aload_n hx hb zd_SW_block_64 rfl (lv_at hl 1 rfl) ?_
        refine zg_SW_heap hx hb hts hown X zd_SW_block_65 ?_
        refine lv_iload_n hx hb zd_SW_block_68 rfl (lv_at hl 0 rfl) ?_
        obtain ⟨r12, h13, hf⟩ := Option.bind_eq_some_iff.mp hf
        refine zr_cvP (As := [.int r2]) (rest := []) (q0 := 21) (ci := 6) hx hb hml hown hts hl.1 X (zk_He_address l D q cI cZ h13) zkw_He_address zl_SW_154 rfl rfl (Nat.le_of_ble_eq_true rfl) rfl rfl ⟨rfl, rfl⟩ ⟨Nat.le_of_ble_eq_true rfl, Nat.le_of_ble_eq_true rfl⟩ zd_SW_block_69 (fun H locs X => ?_)
        exact zr_gi hx hb hr hlocks X (Option.some.inj hf) zd_SW_block_72
      · rw [if_neg g14] at hf
        by_cases g15 : x2 = (1 : Int32)
        · rw [if_pos g15] at hf
          refine lv_tableIn (tgt := 73) hx hb zd_SW_block_39 (by rw [g15]; decide) (by rw [g15]; decide) (by rw [g15]; rfl) (by decide) ?_
          refine lv_aload_n hx hb zd_SW_block_73 rfl (lv_at hl 1 rfl) ?_
          refine zg_SW_heap hx hb hts hown X zd_SW_block_74 ?_
          refine lv_iload_n hx hb zd_SW_block_77 rfl (lv_at hl 0 rfl) ?_
          obtain ⟨r10, h11, hf⟩ := Option.bind_eq_some_iff.mp hf
          refine zr_cvP (As := [.int r2]) (rest := []) (q0 := 21) (ci := 6) hx hb hml hown hts hl.1 X (zk_He_size l D q cI cZ h11) zkw_He_size zl_SW_155 rfl rfl (Nat.le_of_ble_eq_true rfl) rfl rfl ⟨rfl, rfl⟩ ⟨Nat.le_of_ble_eq_true rfl, Nat.le_of_ble_eq_true rfl⟩ zd_SW_block_78 (fun H locs X => ?_)
          exact zr_gi hx hb hr hlocks X (Option.some.inj hf) zd_SW_block_81
        · rw [if_neg g15] at hf
          by_cases g16 : x2 = (2 : Int32)
          · rw [if_pos g16] at hf
            refine lv_tableIn (tgt := 82) hx hb zd_SW_block_39 (by rw [g16]; decide) (by rw [g16]; decide) (by rw [g16]; rfl) (by decide) ?_
            refine lv_aload_n hx hb zd_SW_block_82 rfl (lv_at hl 1 rfl) ?_
            refine zg_SW_heap hx hb hts hown X zd_SW_block_83 ?_
            refine lv_iload_n hx hb zd_SW_block_86 rfl (lv_at hl 0 rfl) ?_
            obtain ⟨r7, h9, hf⟩ := Option.bind_eq_some_iff.mp hf
            refine zr_cvP (As := [.int r2]) (rest := []) (q0 := 21) (ci := 6) hx hb hml hown hts hl.1 X (zk_He_isLive l D q cI cZ h9) zkw_He_isLive zl_SW_158 rfl rfl (Nat.le_of_ble_eq_true rfl) rfl rfl ⟨rfl, rfl⟩ ⟨Nat.le_of_ble_eq_true rfl, Nat.le_of_ble_eq_true rfl⟩ zd_SW_block_87 (fun H locs X => ?_)
            refine lv_if_eq (tgt := 97) hx hb zd_SW_block_90 (by decide) (fun g8 => ?_) (fun g8 => ?_)
            · rw [if_pos g8] at hf
              refine lv_iconst (v := 2) hx hb zd_SW_block_97 (by decide) ?_
              exact zr_gi hx hb hr hlocks X (Option.some.inj hf) zd_SW_block_98
            · rw [if_neg g8] at hf
              refine lv_iconst (v := 1) hx hb zd_SW_block_93 (by decide) ?_
              refine lv_goto (tgt := 98) hx hb zd_SW_block_94 (by decide) ?_
              exact zr_gi hx hb hr hlocks X (Option.some.inj hf) zd_SW_block_98
          · rw [if_neg g16] at hf
            refine lv_tableOut (tgt := 99) hx hb zd_SW_block_39 (zz_out (fun k h1 h2 => ?_)) (by decide) ?_
            · have : k = 0 ∨ k = 1 ∨ k = 2 := by omega
              rcases this with rfl | rfl | rfl
              · exact fun hx => g14 (hx.trans (by decide))
              · exact fun hx => g15 (hx.trans (by decide))
              · exact fun hx => g16 (hx.trans (by decide))
            · refine lv_aload_n hx hb zd_SW_block_99 rfl (lv_at hl 1 rfl) ?_
              refine zg_SW_scan hx hb hts hown X zd_SW_block_100 ?_
              obtain ⟨u3, h6, hf⟩ := Option.bind_eq_some_iff.mp hf
              refine zr_cvV (As := []) (rest := []) (q0 := 27) (ci := 7) hx hb hml hown hts hl.1 X (zk_LS_make l D q cI cZ h6) zkw_LS_make zl_SW_161 rfl rfl (Nat.le_of_ble_eq_true rfl) rfl rfl ⟨rfl, rfl⟩ ⟨Nat.le_of_ble_eq_true rfl, Nat.le_of_ble_eq_true rfl⟩ zd_SW_block_103 (fun H locs X => ?_)
              refine lv_aload_n hx hb zd_SW_block_106 rfl (lv_at hl 1 rfl) ?_
              refine zg_SW_scan hx hb hts hown X zd_SW_block_107 ?_
              refine lv_iload_n hx hb zd_SW_block_110 rfl (lv_at hl 0 rfl) ?_
              obtain ⟨r4, h5, hf⟩ := Option.bind_eq_some_iff.mp hf
              refine zr_cvP (As := [.int r2]) (rest := []) (q0 := 27) (ci := 7) hx hb hml hown hts hl.1 X (zk_LS_verdict l D q cI cZ h5) zkw_LS_verdict zl_SW_164 rfl rfl (Nat.le_of_ble_eq_true rfl) rfl rfl ⟨rfl, rfl⟩ ⟨Nat.le_of_ble_eq_true rfl, Nat.le_of_ble_eq_true rfl⟩ zd_SW_block_111 (fun H locs X => ?_)
              exact zr_gi hx hb hr hlocks X (Option.some.inj hf) zd_SW_block_114
    · rw [if_pos g17] at hf
      exact zr_thr (k := 4) (by decide) hx hb hml hl.1 hown hts hlocks hne hok hstat hfl X zx_SW_136 zxi_4 zxj_4 zxk_SW_138 ⟨by decide, by decide, by decide, by decide⟩ zd_SW_block_30 zd_SW_block_33 zd_SW_block_34 zd_SW_block_37 (Option.some.inj hf)
  · rw [if_pos g19] at hf
    exact zr_thr (k := 1) (by decide) hx hb hml hl.1 hown hts hlocks hne hok hstat hfl X zx_SW_82 zxi_1 zxj_1 zxk_SW_84 ⟨by decide, by decide, by decide, by decide⟩ zd_SW_block_8 zd_SW_block_11 zd_SW_block_12 zd_SW_block_15 (Option.some.inj hf)

set_option maxRecDepth 100000 in
set_option maxHeartbeats 4000000 in
theorem zk_SW_leaks (l : Launch) (hfl : l.flags = flags0) (D : va_G) (q : Nat → Nat) (cI cZ : ClassId) {σ : St} {x1 : Int32} {out : TO} (hf : zf_SW_leaks σ x1 = some out) : zF false l D vwCl (zz_tys cI cZ) (wS q cI cZ) zy_SW_leaks (.code zy_SW_leaks zc_SW_leaks 2 (some .int) :: zz_WS) zm_SW_leaks [.ref (q 0), .int x1] σ out := by
  refine zF_of (by decide +kernel) (Nat.le_of_ble_eq_true rfl) (fun p e s m below meth c A ls hx hb hml hown hts hr hlocks hne hok hstat X hl => ?_)
  have hl : lv_has ls 2 [(0, .ref (q 0)), (1, .int x1)] := hl
  unfold zf_SW_leaks at hf
  refine lv_iload_n hx hb zd_SW_leaks_0 rfl (lv_at hl 1 rfl) ?_
  refine lv_iconst (v := 1) hx hb zd_SW_leaks_1 (by decide) ?_
  refine lv_icmp_lt (tgt := 10) hx hb zd_SW_leaks_2 (by decide) (fun g6 => ?_) (fun g6 => ?_)
  · rw [if_pos g6] at hf
    exact zr_thr (k := 1) (by decide) hx hb hml hl.1 hown hts hlocks hne hok hstat hfl X zx_SW_82 zxi_1 zxj_1 zxk_SW_84 ⟨by decide, by decide, by decide, by decide⟩ zd_SW_leaks_10 zd_SW_leaks_13 zd_SW_leaks_14 zd_SW_leaks_17 (Option.some.inj hf)
  · rw [if_neg g6] at hf
    refine lv_iload_n hx hb zd_SW_leaks_5 rfl (lv_at hl 1 rfl) ?_
    refine lv_iconst (v := 4) hx hb zd_SW_leaks_6 (by decide) ?_
    refine lv_icmp_le (tgt := 18) hx hb zd_SW_leaks_7 (by decide) (fun g5 => ?_) (fun g5 => ?_)
    · rw [if_pos g5] at hf
      refine lv_aload_n hx hb zd_SW_leaks_18 rfl (lv_at hl 0 rfl) ?_
      refine zg_SW_scan hx hb hts hown X zd_SW_leaks_19 ?_
      obtain ⟨u1, h4, hf⟩ := Option.bind_eq_some_iff.mp hf
      refine zr_cvV (As := []) (rest := []) (q0 := 27) (ci := 7) hx hb hml hown hts hl.1 X (zk_LS_make l D q cI cZ h4) zkw_LS_make zl_SW_161 rfl rfl (Nat.le_of_ble_eq_true rfl) rfl rfl ⟨rfl, rfl⟩ ⟨Nat.le_of_ble_eq_true rfl, Nat.le_of_ble_eq_true rfl⟩ zd_SW_leaks_22 (fun H locs X => ?_)
      refine lv_aload_n hx hb zd_SW_leaks_25 rfl (lv_at hl 0 rfl) ?_
      refine zg_SW_scan hx hb hts hown X zd_SW_leaks_26 ?_
      refine lv_iload_n hx hb zd_SW_leaks_29 rfl (lv_at hl 1 rfl) ?_
      obtain ⟨r2, h3, hf⟩ := Option.bind_eq_some_iff.mp hf
      refine zr_cvP (As := [.int x1]) (rest := []) (q0 := 27) (ci := 7) hx hb hml hown hts hl.1 X (zk_LS_howMany l D q cI cZ h3) zkw_LS_howMany zl_SW_167 rfl rfl (Nat.le_of_ble_eq_true rfl) rfl rfl ⟨rfl, rfl⟩ ⟨Nat.le_of_ble_eq_true rfl, Nat.le_of_ble_eq_true rfl⟩ zd_SW_leaks_30 (fun H locs X => ?_)
      exact zr_gi hx hb hr hlocks X (Option.some.inj hf) zd_SW_leaks_33
    · rw [if_neg g5] at hf
      exact zr_thr (k := 1) (by decide) hx hb hml hl.1 hown hts hlocks hne hok hstat hfl X zx_SW_82 zxi_1 zxj_1 zxk_SW_84 ⟨by decide, by decide, by decide, by decide⟩ zd_SW_leaks_10 zd_SW_leaks_13 zd_SW_leaks_14 zd_SW_leaks_17 (Option.some.inj hf)

