set_option maxRecDepth 100000 in
set_option maxHeartbeats 4000000 in
theorem zk_Mo_thrown (l : Launch) (D : va_G) (q : Nat → Nat) (cI cZ : ClassId) {σ : St} {out : Int32} (hf : zf_Mo_thrown σ = some out) : zI l D vwCl (zz_tys cI cZ) (wM q cI cZ) zy_Mo_thrown (.code zy_Mo_thrown zc_Mo_thrown 1 (some .int) :: zz_WS) zm_Mo_thrown [.ref (q 0)] σ (out, σ) := by
  refine zI_of (by decide +kernel) (Nat.le_of_ble_eq_true rfl) (fun p e s m below meth c A ls hx hb hml hown hts hr hlocks X hl => ?_)
  have hl : lv_has ls 1 [(0, .ref (q 0))] := hl
  unfold zf_Mo_thrown at hf
  refine lv_aload_n hx hb zd_Mo_thrown_0 rfl (lv_at hl 0 rfl) ?_
  refine zg_Mo_thrown hx hb hts hown X zd_Mo_thrown_1 ?_
  exact zr_iretP hx hb hr hlocks X (Option.some.inj hf) zd_Mo_thrown_4

set_option maxRecDepth 100000 in
set_option maxHeartbeats 4000000 in
theorem zk_Mo_in (l : Launch) (D : va_G) (q : Nat → Nat) (cI cZ : ClassId) {σ : St} {x0 x1 x2 : Int32} {out : Int32} (hf : zf_Mo_in x0 x1 x2 = some out) : zI l D vwCl (zz_tys cI cZ) (wM q cI cZ) zy_Mo_in (.code zy_Mo_in zc_Mo_in 3 (some .boolean) :: zz_WS) zm_Mo_in [.int x0, .int x1, .int x2] σ (out, σ) := by
  refine zI_of (by decide +kernel) (Nat.le_of_ble_eq_true rfl) (fun p e s m below meth c A ls hx hb hml hown hts hr hlocks X hl => ?_)
  have hl : lv_has ls 3 [(0, .int x0), (1, .int x1), (2, .int x2)] := hl
  unfold zf_Mo_in at hf
  refine lv_iload_n hx hb zd_Mo_in_0 rfl (lv_at hl 0 rfl) ?_
  refine lv_iload_n hx hb zd_Mo_in_1 rfl (lv_at hl 1 rfl) ?_
  refine lv_icmp_lt (tgt := 14) hx hb zd_Mo_in_2 (by decide) (fun g2 => ?_) (fun g2 => ?_)
  · rw [if_pos g2] at hf
    refine lv_iconst (v := 0) hx hb zd_Mo_in_14 (by decide) ?_
    obtain ⟨hz, hf⟩ := zz_kz_some hf
    exact zr_zretP hx hb hr hlocks X hz (Option.some.inj hf) zd_Mo_in_15
  · rw [if_neg g2] at hf
    refine lv_iload_n hx hb zd_Mo_in_5 rfl (lv_at hl 0 rfl) ?_
    refine lv_iload_n hx hb zd_Mo_in_6 rfl (lv_at hl 2 rfl) ?_
    refine lv_icmp_gt (tgt := 14) hx hb zd_Mo_in_7 (by decide) (fun g1 => ?_) (fun g1 => ?_)
    · rw [if_pos g1] at hf
      refine lv_iconst (v := 0) hx hb zd_Mo_in_14 (by decide) ?_
      obtain ⟨hz, hf⟩ := zz_kz_some hf
      exact zr_zretP hx hb hr hlocks X hz (Option.some.inj hf) zd_Mo_in_15
    · rw [if_neg g1] at hf
      refine lv_iconst (v := 1) hx hb zd_Mo_in_10 (by decide) ?_
      refine lv_goto (tgt := 15) hx hb zd_Mo_in_11 (by decide) ?_
      obtain ⟨hz, hf⟩ := zz_kz_some hf
      exact zr_zretP hx hb hr hlocks X hz (Option.some.inj hf) zd_Mo_in_15

set_option maxRecDepth 100000 in
set_option maxHeartbeats 4000000 in
theorem zk_Mo_bad (l : Launch) (D : va_G) (q : Nat → Nat) (cI cZ : ClassId) {σ : St} {x1 : Int32} {out : (Int32 × St)} (hf : zf_Mo_bad σ x1 = some out) : zI l D vwCl (zz_tys cI cZ) (wM q cI cZ) zy_Mo_bad (.code zy_Mo_bad zc_Mo_bad 2 (some .boolean) :: zz_WS) zm_Mo_bad [.ref (q 0), .int x1] σ out := by
  refine zI_of (by decide +kernel) (Nat.le_of_ble_eq_true rfl) (fun p e s m below meth c A ls hx hb hml hown hts hr hlocks X hl => ?_)
  have hl : lv_has ls 2 [(0, .ref (q 0)), (1, .int x1)] := hl
  unfold zf_Mo_bad at hf
  refine lv_aload_n hx hb zd_Mo_bad_0 rfl (lv_at hl 0 rfl) ?_
  refine lv_iload_n hx hb zd_Mo_bad_1 rfl (lv_at hl 1 rfl) ?_
  refine lv_if_eq (tgt := 9) hx hb zd_Mo_bad_2 (by decide) (fun g3 => ?_) (fun g3 => ?_)
  · rw [if_pos g3] at hf
    refine lv_iconst (v := 1) hx hb zd_Mo_bad_9 (by decide) ?_
    refine zp_Mo_thrown hx hb hts hown X zd_Mo_bad_10 (fun H locs X => ?_)
    refine lv_iload_n hx hb zd_Mo_bad_13 rfl (lv_at hl 1 rfl) ?_
    refine lv_if_ne (tgt := 21) hx hb zd_Mo_bad_14 (by decide) (fun g1 => ?_) (fun g1 => ?_)
    · rw [if_neg g1] at hf
      refine lv_iconst (v := 0) hx hb zd_Mo_bad_21 (by decide) ?_
      obtain ⟨hz, hf⟩ := zz_kz_some hf
      exact zr_zret hx hb hr hlocks X hz (Option.some.inj hf) zd_Mo_bad_22
    · rw [if_pos g1] at hf
      refine lv_iconst (v := 1) hx hb zd_Mo_bad_17 (by decide) ?_
      refine lv_goto (tgt := 22) hx hb zd_Mo_bad_18 (by decide) ?_
      obtain ⟨hz, hf⟩ := zz_kz_some hf
      exact zr_zret hx hb hr hlocks X hz (Option.some.inj hf) zd_Mo_bad_22
  · rw [if_neg g3] at hf
    refine lv_iconst (v := 0) hx hb zd_Mo_bad_5 (by decide) ?_
    refine lv_goto (tgt := 10) hx hb zd_Mo_bad_6 (by decide) ?_
    refine zp_Mo_thrown hx hb hts hown X zd_Mo_bad_10 (fun H locs X => ?_)
    refine lv_iload_n hx hb zd_Mo_bad_13 rfl (lv_at hl 1 rfl) ?_
    refine lv_if_ne (tgt := 21) hx hb zd_Mo_bad_14 (by decide) (fun g2 => ?_) (fun g2 => ?_)
    · rw [if_neg g2] at hf
      refine lv_iconst (v := 0) hx hb zd_Mo_bad_21 (by decide) ?_
      obtain ⟨hz, hf⟩ := zz_kz_some hf
      exact zr_zret hx hb hr hlocks X hz (Option.some.inj hf) zd_Mo_bad_22
    · rw [if_pos g2] at hf
      refine lv_iconst (v := 1) hx hb zd_Mo_bad_17 (by decide) ?_
      refine lv_goto (tgt := 22) hx hb zd_Mo_bad_18 (by decide) ?_
      obtain ⟨hz, hf⟩ := zz_kz_some hf
      exact zr_zret hx hb hr hlocks X hz (Option.some.inj hf) zd_Mo_bad_22

set_option maxRecDepth 100000 in
set_option maxHeartbeats 4000000 in
theorem zk_Mo_ends (l : Launch) (D : va_G) (q : Nat → Nat) (cI cZ : ClassId) {σ : St} {x1 : Int32} {out : Int32} (hf : zf_Mo_ends σ x1 = some out) : zI l D vwCl (zz_tys cI cZ) (wM q cI cZ) zy_Mo_ends (.code zy_Mo_ends zc_Mo_ends 2 (some .boolean) :: zz_WS) zm_Mo_ends [.ref (q 0), .int x1] σ (out, σ) := by
  refine zI_of (by decide +kernel) (Nat.le_of_ble_eq_true rfl) (fun p e s m below meth c A ls hx hb hml hown hts hr hlocks X hl => ?_)
  have hl : lv_has ls 2 [(0, .ref (q 0)), (1, .int x1)] := hl
  unfold zf_Mo_ends at hf
  refine lv_aload_n hx hb zd_Mo_ends_0 rfl (lv_at hl 0 rfl) ?_
  refine zg_Mo_op hx hb hts hown X zd_Mo_ends_1 ?_
  refine lv_iload_n hx hb zd_Mo_ends_4 rfl (lv_at hl 1 rfl) ?_
  obtain ⟨hin, hf⟩ := zz_ck_some hf
  refine za_Mo_op hx hb X hin zd_Mo_ends_5 ?_
  refine lv_if_eq (tgt := 31) hx hb zd_Mo_ends_6 (by decide) (fun g5 => ?_) (fun g5 => ?_)
  · rw [if_pos g5] at hf
    refine lv_iconst (v := 1) hx hb zd_Mo_ends_31 (by decide) ?_
    refine lv_goto (tgt := 36) hx hb zd_Mo_ends_32 (by decide) ?_
    obtain ⟨hz, hf⟩ := zz_kz_some hf
    exact zr_zretP hx hb hr hlocks X hz (Option.some.inj hf) zd_Mo_ends_36
  · rw [if_neg g5] at hf
    refine lv_aload_n hx hb zd_Mo_ends_9 rfl (lv_at hl 0 rfl) ?_
    refine zg_Mo_op hx hb hts hown X zd_Mo_ends_10 ?_
    refine lv_iload_n hx hb zd_Mo_ends_13 rfl (lv_at hl 1 rfl) ?_
    obtain ⟨hin, hf⟩ := zz_ck_some hf
    refine za_Mo_op hx hb X hin zd_Mo_ends_14 ?_
    refine lv_bipush (v := 13) hx hb zd_Mo_ends_15 (by decide) ?_
    refine lv_bipush (v := 16) hx hb zd_Mo_ends_17 (by decide) ?_
    obtain ⟨r1, h4, hf⟩ := Option.bind_eq_some_iff.mp hf
    refine zr_csP (As := [.int (σ 0 x1.toNatClampNeg), .int (13 : Int32), .int (16 : Int32)]) (rest := []) hx hb hml hown hts hl.1 X (zk_Mo_in l D q cI cZ h4) zkw_Mo_in zl_Mo_79 rfl rfl (Nat.le_of_ble_eq_true rfl) ⟨rfl, rfl⟩ ⟨Nat.le_of_ble_eq_true rfl, Nat.le_of_ble_eq_true rfl⟩ zd_Mo_ends_19 (fun H locs X => ?_)
    refine lv_if_ne (tgt := 31) hx hb zd_Mo_ends_22 (by decide) (fun g3 => ?_) (fun g3 => ?_)
    · rw [if_neg g3] at hf
      refine lv_iconst (v := 1) hx hb zd_Mo_ends_31 (by decide) ?_
      refine lv_goto (tgt := 36) hx hb zd_Mo_ends_32 (by decide) ?_
      obtain ⟨hz, hf⟩ := zz_kz_some hf
      exact zr_zretP hx hb hr hlocks X hz (Option.some.inj hf) zd_Mo_ends_36
    · rw [if_pos g3] at hf
      refine lv_iload_n hx hb zd_Mo_ends_25 rfl (lv_at hl 1 rfl) ?_
      refine lv_bipush (v := 31) hx hb zd_Mo_ends_26 (by decide) ?_
      refine lv_icmp_ne (tgt := 35) hx hb zd_Mo_ends_28 (by decide) (fun g2 => ?_) (fun g2 => ?_)
      · rw [if_neg g2] at hf
        refine lv_iconst (v := 0) hx hb zd_Mo_ends_35 (by decide) ?_
        obtain ⟨hz, hf⟩ := zz_kz_some hf
        exact zr_zretP hx hb hr hlocks X hz (Option.some.inj hf) zd_Mo_ends_36
      · rw [if_pos g2] at hf
        refine lv_iconst (v := 1) hx hb zd_Mo_ends_31 (by decide) ?_
        refine lv_goto (tgt := 36) hx hb zd_Mo_ends_32 (by decide) ?_
        obtain ⟨hz, hf⟩ := zz_kz_some hf
        exact zr_zretP hx hb hr hlocks X hz (Option.some.inj hf) zd_Mo_ends_36

set_option maxRecDepth 100000 in
set_option maxHeartbeats 4000000 in
theorem zw_Mo_endOf_L2 {p : Program} {l : Launch} {e : Env} {s : State} {m : MethodId} {args : Array Value} {below : List Frame} {meth : Method} {c : Code} {D : va_G} {q : Nat → Nat} {cI cZ : ClassId} {A : Nat → Prop} (hx : p.tables.exec = Jvm.exec) (hb : c.code = zc_Mo_endOf) (hml : c.maxLocals = 3) (hown : s.vm.findClass zR_Mo = some m.cls) (hts : ∀ w ∈ zz_WS, w.before args s = true) (hr : meth.sig.returnType = (some .int)) (hlocks : meth.locks = false) (out : Int32) (σ : St) (kx : Int32 → Option Int32) (hkx : ∀ (x2 : Int32) (H : Heap) (locs : List Loc) (ls : Array Slot), zz_X D vwCl (zz_tys cI cZ) A s H locs ((wM q cI cZ) σ) → lv_has ls 3 [(2, .int x2)] → kx x2 = some out → W p l e zm_Mo_endOf s m args below meth c H locs 0 0 (MQ below (zq_I D vwCl (zz_tys cI cZ) (wM q cI cZ) A (out, σ)) args s 0 0 A) (F0 m 24 ls [])) : ∀ (n : Nat) (x1 x2 : Int32) (H : Heap) (locs : List Loc) (ls : Array Slot), zz_X D vwCl (zz_tys cI cZ) A s H locs ((wM q cI cZ) σ) → lv_has ls 3 [(0, .ref (q 0)), (1, .int x1), (2, .int x2)] → zf_Mo_endOf_L2 σ kx n x1 x2 = some out → W p l e zm_Mo_endOf s m args below meth c H locs 0 0 (MQ below (zq_I D vwCl (zz_tys cI cZ) (wM q cI cZ) A (out, σ)) args s 0 0 A) (F0 m 2 ls []) := by
  intro n
  induction n with
  | zero =>
    intro x1 x2 H locs ls X hl hf
    exact absurd hf (by simp [zf_Mo_endOf_L2])
  | succ n ih =>
    intro x1 x2 H locs ls X hl hf
    rw [zf_Mo_endOf_L2] at hf
    refine lv_aload_n hx hb zd_Mo_endOf_2 rfl (lv_at hl 0 rfl) ?_
    refine lv_iload_n hx hb zd_Mo_endOf_3 rfl (lv_at hl 2 rfl) ?_
    obtain ⟨r1, h4, hf⟩ := Option.bind_eq_some_iff.mp hf
    refine zr_cvP (As := [.int x2]) (rest := []) (q0 := 0) (ci := 9) hx hb hml hown hts hl.1 X (zk_Mo_ends l D q cI cZ h4) zkw_Mo_ends zl_Mo_83 rfl rfl (Nat.le_of_ble_eq_true rfl) rfl rfl ⟨rfl, rfl⟩ ⟨Nat.le_of_ble_eq_true rfl, Nat.le_of_ble_eq_true rfl⟩ zd_Mo_endOf_4 (fun H locs X => ?_)
    refine lv_if_ne (tgt := 24) hx hb zd_Mo_endOf_7 (by decide) (fun g3 => ?_) (fun g3 => ?_)
    · rw [if_neg g3] at hf
      exact hkx x2 _ _ _ X (lv_sub hl [2] rfl) hf
    · rw [if_pos g3] at hf
      refine lv_iload_n hx hb zd_Mo_endOf_10 rfl (lv_at hl 2 rfl) ?_
      refine lv_iload_n hx hb zd_Mo_endOf_11 rfl (lv_at hl 1 rfl) ?_
      refine lv_bipush (v := 7) hx hb zd_Mo_endOf_12 (by decide) ?_
      refine lv_iadd hx hb zd_Mo_endOf_14 ?_
      refine lv_icmp_ge (tgt := 24) hx hb zd_Mo_endOf_15 (by decide) (fun g2 => ?_) (fun g2 => ?_)
      · rw [if_pos g2] at hf
        exact hkx x2 _ _ _ X (lv_sub hl [2] rfl) hf
      · rw [if_neg g2] at hf
        refine lv_iinc (v := (x2 + (1 : Int32))) (lv' := [(2, .int (x2 + (1 : Int32))), (0, .ref (q 0)), (1, .int x1)]) hx hb zd_Mo_endOf_18 hl (k := 2) rfl rfl (by decide) rfl (fun ls hl => ?_)
        refine lv_goto (tgt := 2) hx hb zd_Mo_endOf_21 (by decide) ?_
        exact ih x1 (x2 + (1 : Int32)) _ _ _ X (lv_sub hl [1, 2, 0] rfl) hf

set_option maxRecDepth 100000 in
set_option maxHeartbeats 4000000 in
theorem zk_Mo_endOf (l : Launch) (D : va_G) (q : Nat → Nat) (cI cZ : ClassId) {σ : St} {x1 : Int32} {out : Int32} (hf : zf_Mo_endOf σ x1 = some out) : zI l D vwCl (zz_tys cI cZ) (wM q cI cZ) zy_Mo_endOf (.code zy_Mo_endOf zc_Mo_endOf 3 (some .int) :: zz_WS) zm_Mo_endOf [.ref (q 0), .int x1] σ (out, σ) := by
  refine zI_of (by decide +kernel) (Nat.le_of_ble_eq_true rfl) (fun p e s m below meth c A ls hx hb hml hown hts hr hlocks X hl => ?_)
  have hl : lv_has ls 3 [(0, .ref (q 0)), (1, .int x1)] := hl
  unfold zf_Mo_endOf at hf
  refine lv_iload_n hx hb zd_Mo_endOf_0 rfl (lv_at hl 1 rfl) ?_
  refine lv_istore_n (lv' := [(2, .int x1), (0, .ref (q 0)), (1, .int x1)]) hx hb zd_Mo_endOf_1 rfl hl (by decide) rfl (fun ls hl => ?_)
  refine zw_Mo_endOf_L2 hx hb hml hown hts hr hlocks out σ _ (fun y_2 H locs ls X hl hf => ?_) 300 x1 x1 _ _ _ X (lv_sub hl [1, 2, 0] rfl) hf
  refine lv_iload_n hx hb zd_Mo_endOf_24 rfl (lv_at hl 0 rfl) ?_
  exact zr_iretP hx hb hr hlocks X (Option.some.inj hf) zd_Mo_endOf_25

set_option maxRecDepth 100000 in
set_option maxHeartbeats 4000000 in
theorem zw_Mo_code_L68 {p : Program} {l : Launch} {e : Env} {s : State} {m : MethodId} {args : Array Value} {below : List Frame} {meth : Method} {c : Code} {D : va_G} {q : Nat → Nat} {cI cZ : ClassId} {A : Nat → Prop} (hx : p.tables.exec = Jvm.exec) (hb : c.code = zc_Mo_code) (hml : c.maxLocals = 8) (hown : s.vm.findClass zR_Mo = some m.cls) (hts : ∀ w ∈ zz_WS, w.before args s = true) (hr : meth.sig.returnType = none) (hlocks : meth.locks = false) (out : St) (kx : St → Int32 → Int32 → Int32 → Int32 → Int32 → Int32 → Option St) (hkx : ∀ (σ : St) (x1 x2 x3 x4 x5 x6 : Int32) (H : Heap) (locs : List Loc) (ls : Array Slot), zz_X D vwCl (zz_tys cI cZ) A s H locs ((wM q cI cZ) σ) → lv_has ls 8 [(0, .ref (q 0)), (1, .int x1), (2, .int x2), (3, .int x3), (4, .int x4), (5, .int x5), (6, .int x6)] → kx σ x1 x2 x3 x4 x5 x6 = some out → W p l e zm_Mo_code s m args below meth c H locs 0 0 (MQ below (zq_V D vwCl (zz_tys cI cZ) (wM q cI cZ) A out) args s 0 0 A) (F0 m 108 ls [])) : ∀ (n : Nat) (σ : St) (x1 x2 x3 x4 x5 x6 x7 : Int32) (H : Heap) (locs : List Loc) (ls : Array Slot), zz_X D vwCl (zz_tys cI cZ) A s H locs ((wM q cI cZ) σ) → lv_has ls 8 [(0, .ref (q 0)), (1, .int x1), (2, .int x2), (3, .int x3), (4, .int x4), (5, .int x5), (6, .int x6), (7, .int x7)] → zf_Mo_code_L68 kx n σ x1 x2 x3 x4 x5 x6 x7 = some out → W p l e zm_Mo_code s m args below meth c H locs 0 0 (MQ below (zq_V D vwCl (zz_tys cI cZ) (wM q cI cZ) A out) args s 0 0 A) (F0 m 68 ls []) := by
  intro n
  induction n with
  | zero =>
    intro σ x1 x2 x3 x4 x5 x6 x7 H locs ls X hl hf
    exact absurd hf (by simp [zf_Mo_code_L68])
  | succ n ih =>
    intro σ x1 x2 x3 x4 x5 x6 x7 H locs ls X hl hf
    rw [zf_Mo_code_L68] at hf
    refine lv_iload hx hb zd_Mo_code_68 (lv_at hl 7 rfl) ?_
    refine lv_iload_n hx hb zd_Mo_code_70 rfl (lv_at hl 1 rfl) ?_
    refine lv_icmp_gt (tgt := 108) hx hb zd_Mo_code_71 (by decide) (fun g7 => ?_) (fun g7 => ?_)
    · rw [if_pos g7] at hf
      exact hkx σ x1 x2 x3 x4 x5 x6 _ _ _ X (lv_sub hl [0, 1, 2, 3, 4, 5, 6] rfl) hf
    · rw [if_neg g7] at hf
      refine lv_aload_n hx hb zd_Mo_code_74 rfl (lv_at hl 0 rfl) ?_
      refine zg_Mo_piece hx hb hts hown X zd_Mo_code_75 ?_
      refine lv_iload hx hb zd_Mo_code_78 (lv_at hl 7 rfl) ?_
      obtain ⟨hin, hf⟩ := zz_ck_some hf
      refine za_Mo_piece hx hb X hin zd_Mo_code_80 ?_
      refine lv_if_eq (tgt := 102) hx hb zd_Mo_code_81 (by decide) (fun g6 => ?_) (fun g6 => ?_)
      · rw [if_pos g6] at hf
        refine lv_iinc (v := (x7 + (1 : Int32))) (lv' := [(7, .int (x7 + (1 : Int32))), (0, .ref (q 0)), (1, .int x1), (2, .int x2), (3, .int x3), (4, .int x4), (5, .int x5), (6, .int x6)]) hx hb zd_Mo_code_102 hl (k := 7) rfl rfl (by decide) rfl (fun ls hl => ?_)
        refine lv_goto (tgt := 68) hx hb zd_Mo_code_105 (by decide) ?_
        exact ih σ x1 x2 x3 x4 x5 x6 (x7 + (1 : Int32)) _ _ _ X (lv_sub hl [1, 2, 3, 4, 5, 6, 7, 0] rfl) hf
      · rw [if_neg g6] at hf
        refine lv_aload_n hx hb zd_Mo_code_84 rfl (lv_at hl 0 rfl) ?_
        refine lv_iload hx hb zd_Mo_code_85 (lv_at hl 7 rfl) ?_
        obtain ⟨r3, h5, hf⟩ := Option.bind_eq_some_iff.mp hf
        refine zr_cvP (As := [.int x7]) (rest := []) (q0 := 0) (ci := 9) hx hb hml hown hts hl.1 X (zk_Mo_endOf l D q cI cZ h5) zkw_Mo_endOf zl_Mo_91 rfl rfl (Nat.le_of_ble_eq_true rfl) rfl rfl ⟨rfl, rfl⟩ ⟨Nat.le_of_ble_eq_true rfl, Nat.le_of_ble_eq_true rfl⟩ zd_Mo_code_87 (fun H locs X => ?_)
        refine lv_iload_n hx hb zd_Mo_code_90 rfl (lv_at hl 1 rfl) ?_
        refine lv_icmp_lt (tgt := 102) hx hb zd_Mo_code_91 (by decide) (fun g4 => ?_) (fun g4 => ?_)
        · rw [if_pos g4] at hf
          refine lv_iinc (v := (x7 + (1 : Int32))) (lv' := [(7, .int (x7 + (1 : Int32))), (0, .ref (q 0)), (1, .int x1), (2, .int x2), (3, .int x3), (4, .int x4), (5, .int x5), (6, .int x6)]) hx hb zd_Mo_code_102 hl (k := 7) rfl rfl (by decide) rfl (fun ls hl => ?_)
          refine lv_goto (tgt := 68) hx hb zd_Mo_code_105 (by decide) ?_
          exact ih σ x1 x2 x3 x4 x5 x6 (x7 + (1 : Int32)) _ _ _ X (lv_sub hl [1, 2, 3, 4, 5, 6, 7, 0] rfl) hf
        · rw [if_neg g4] at hf
          refine lv_aload_n hx hb zd_Mo_code_94 rfl (lv_at hl 0 rfl) ?_
          refine zg_Mo_piece hx hb hts hown X zd_Mo_code_95 ?_
          refine lv_iload hx hb zd_Mo_code_98 (lv_at hl 7 rfl) ?_
          refine lv_iconst (v := 0) hx hb zd_Mo_code_100 (by decide) ?_
          obtain ⟨hin, hf⟩ := zz_ck_some hf
          refine zs_Mo_piece hx hb X hin zd_Mo_code_101 (fun H locs X => ?_)
          refine lv_iinc (v := (x7 + (1 : Int32))) (lv' := [(7, .int (x7 + (1 : Int32))), (0, .ref (q 0)), (1, .int x1), (2, .int x2), (3, .int x3), (4, .int x4), (5, .int x5), (6, .int x6)]) hx hb zd_Mo_code_102 hl (k := 7) rfl rfl (by decide) rfl (fun ls hl => ?_)
          refine lv_goto (tgt := 68) hx hb zd_Mo_code_105 (by decide) ?_
          exact ih (zz_put σ 19 x7.toNatClampNeg (vp_nar .boolean (0 : Int32))) x1 x2 x3 x4 x5 x6 (x7 + (1 : Int32)) _ _ _ X (lv_sub hl [1, 2, 3, 4, 5, 6, 7, 0] rfl) hf

set_option maxRecDepth 100000 in
set_option maxHeartbeats 4000000 in
theorem zk_Mo_code (l : Launch) (D : va_G) (q : Nat → Nat) (cI cZ : ClassId) {σ : St} {x1 x2 x3 x4 x5 x6 : Int32} {out : St} (hf : zf_Mo_code σ x1 x2 x3 x4 x5 x6 = some out) : zV l D vwCl (zz_tys cI cZ) (wM q cI cZ) zy_Mo_code (.code zy_Mo_code zc_Mo_code 8 none :: zz_WS) zm_Mo_code [.ref (q 0), .int x1, .int x2, .int x3, .int x4, .int x5, .int x6] σ out := by
  refine zV_of (by decide +kernel) (Nat.le_of_ble_eq_true rfl) (fun p e s m below meth c A ls hx hb hml hown hts hr hlocks X hl => ?_)
  have hl : lv_has ls 8 [(0, .ref (q 0)), (1, .int x1), (2, .int x2), (3, .int x3), (4, .int x4), (5, .int x5), (6, .int x6)] := hl
  unfold zf_Mo_code at hf
  refine lv_aload_n hx hb zd_Mo_code_0 rfl (lv_at hl 0 rfl) ?_
  refine lv_iload_n hx hb zd_Mo_code_1 rfl (lv_at hl 1 rfl) ?_
  refine lv_iconst (v := 0) hx hb zd_Mo_code_2 (by decide) ?_
  refine lv_bipush (v := 31) hx hb zd_Mo_code_3 (by decide) ?_
  obtain ⟨r1, h44, hf⟩ := Option.bind_eq_some_iff.mp hf
  refine zr_csP (As := [.int x1, .int (0 : Int32), .int (31 : Int32)]) (rest := [.ref (q 0)]) hx hb hml hown hts hl.1 X (zk_Mo_in l D q cI cZ h44) zkw_Mo_in zl_Mo_79 rfl rfl (Nat.le_of_ble_eq_true rfl) ⟨rfl, rfl⟩ ⟨Nat.le_of_ble_eq_true rfl, Nat.le_of_ble_eq_true rfl⟩ zd_Mo_code_5 (fun H locs X => ?_)
  refine lv_if_eq (tgt := 57) hx hb zd_Mo_code_8 (by decide) (fun g43 => ?_) (fun g43 => ?_)
  · rw [if_pos g43] at hf
    refine lv_iconst (v := 0) hx hb zd_Mo_code_57 (by decide) ?_
    obtain ⟨u2, h10, hf⟩ := Option.bind_eq_some_iff.mp hf
    refine zr_cvI (As := [.int (0 : Int32)]) (rest := []) (q0 := 0) (ci := 9) hx hb hml hown hts hl.1 X (zk_Mo_bad l D q cI cZ h10) zkw_Mo_bad zl_Mo_87 rfl rfl (Nat.le_of_ble_eq_true rfl) rfl rfl ⟨rfl, rfl⟩ ⟨Nat.le_of_ble_eq_true rfl, Nat.le_of_ble_eq_true rfl⟩ zd_Mo_code_58 (fun H locs X => ?_)
    refine lv_if_eq (tgt := 65) hx hb zd_Mo_code_61 (by decide) (fun g9 => ?_) (fun g9 => ?_)
    · rw [if_pos g9] at hf
      refine lv_iconst (v := 0) hx hb zd_Mo_code_65 (by decide) ?_
      refine lv_istore (lv' := [(7, .int (0 : Int32)), (0, .ref (q 0)), (1, .int x1), (2, .int x2), (3, .int x3), (4, .int x4), (5, .int x5), (6, .int x6)]) hx hb zd_Mo_code_66 hl (by decide) rfl (fun ls hl => ?_)
      refine zw_Mo_code_L68 hx hb hml hown hts hr hlocks out _ (fun s8 s8_1 s8_2 s8_3 s8_4 s8_5 s8_6 H locs ls X hl hf => ?_) 300 u2.2 x1 x2 x3 x4 x5 x6 (0 : Int32) _ _ _ X (lv_sub hl [1, 2, 3, 4, 5, 6, 7, 0] rfl) hf
      refine lv_aload_n hx hb zd_Mo_code_108 rfl (lv_at hl 0 rfl) ?_
      refine zg_Mo_op hx hb hts hown X zd_Mo_code_109 ?_
      refine lv_iload_n hx hb zd_Mo_code_112 rfl (lv_at hl 1 rfl) ?_
      refine lv_iload_n hx hb zd_Mo_code_113 rfl (lv_at hl 2 rfl) ?_
      obtain ⟨hin, hf⟩ := zz_ck_some hf
      refine zs_Mo_op hx hb X hin zd_Mo_code_114 (fun H locs X => ?_)
      refine lv_aload_n hx hb zd_Mo_code_115 rfl (lv_at hl 0 rfl) ?_
      refine zg_Mo_d hx hb hts hown X zd_Mo_code_116 ?_
      refine lv_iload_n hx hb zd_Mo_code_119 rfl (lv_at hl 1 rfl) ?_
      refine lv_iload_n hx hb zd_Mo_code_120 rfl (lv_at hl 3 rfl) ?_
      obtain ⟨hin, hf⟩ := zz_ck_some hf
      refine zs_Mo_d hx hb X hin zd_Mo_code_121 (fun H locs X => ?_)
      refine lv_aload_n hx hb zd_Mo_code_122 rfl (lv_at hl 0 rfl) ?_
      refine zg_Mo_a hx hb hts hown X zd_Mo_code_123 ?_
      refine lv_iload_n hx hb zd_Mo_code_126 rfl (lv_at hl 1 rfl) ?_
      refine lv_iload hx hb zd_Mo_code_127 (lv_at hl 4 rfl) ?_
      obtain ⟨hin, hf⟩ := zz_ck_some hf
      refine zs_Mo_a hx hb X hin zd_Mo_code_129 (fun H locs X => ?_)
      refine lv_aload_n hx hb zd_Mo_code_130 rfl (lv_at hl 0 rfl) ?_
      refine zg_Mo_b hx hb hts hown X zd_Mo_code_131 ?_
      refine lv_iload_n hx hb zd_Mo_code_134 rfl (lv_at hl 1 rfl) ?_
      refine lv_iload hx hb zd_Mo_code_135 (lv_at hl 5 rfl) ?_
      obtain ⟨hin, hf⟩ := zz_ck_some hf
      refine zs_Mo_b hx hb X hin zd_Mo_code_137 (fun H locs X => ?_)
      refine lv_aload_n hx hb zd_Mo_code_138 rfl (lv_at hl 0 rfl) ?_
      refine zg_Mo_n hx hb hts hown X zd_Mo_code_139 ?_
      refine lv_iload_n hx hb zd_Mo_code_142 rfl (lv_at hl 1 rfl) ?_
      refine lv_iload hx hb zd_Mo_code_143 (lv_at hl 6 rfl) ?_
      obtain ⟨hin, hf⟩ := zz_ck_some hf
      refine zs_Mo_n hx hb X hin zd_Mo_code_145 (fun H locs X => ?_)
      exact zr_vret hx hb hr hlocks X (Option.some.inj hf) zd_Mo_code_146
    · rw [if_neg g9] at hf
      exact zr_vret hx hb hr hlocks X (Option.some.inj hf) zd_Mo_code_64
  · rw [if_neg g43] at hf
    refine lv_iload_n hx hb zd_Mo_code_11 rfl (lv_at hl 2 rfl) ?_
    refine lv_iconst (v := 0) hx hb zd_Mo_code_12 (by decide) ?_
    refine lv_bipush (v := 18) hx hb zd_Mo_code_13 (by decide) ?_
    obtain ⟨r11, h42, hf⟩ := Option.bind_eq_some_iff.mp hf
    refine zr_csP (As := [.int x2, .int (0 : Int32), .int (18 : Int32)]) (rest := [.ref (q 0)]) hx hb hml hown hts hl.1 X (zk_Mo_in l D q cI cZ h42) zkw_Mo_in zl_Mo_79 rfl rfl (Nat.le_of_ble_eq_true rfl) ⟨rfl, rfl⟩ ⟨Nat.le_of_ble_eq_true rfl, Nat.le_of_ble_eq_true rfl⟩ zd_Mo_code_15 (fun H locs X => ?_)
    refine lv_if_eq (tgt := 57) hx hb zd_Mo_code_18 (by decide) (fun g41 => ?_) (fun g41 => ?_)
    · rw [if_pos g41] at hf
      refine lv_iconst (v := 0) hx hb zd_Mo_code_57 (by decide) ?_
      obtain ⟨u12, h15, hf⟩ := Option.bind_eq_some_iff.mp hf
      refine zr_cvI (As := [.int (0 : Int32)]) (rest := []) (q0 := 0) (ci := 9) hx hb hml hown hts hl.1 X (zk_Mo_bad l D q cI cZ h15) zkw_Mo_bad zl_Mo_87 rfl rfl (Nat.le_of_ble_eq_true rfl) rfl rfl ⟨rfl, rfl⟩ ⟨Nat.le_of_ble_eq_true rfl, Nat.le_of_ble_eq_true rfl⟩ zd_Mo_code_58 (fun H locs X => ?_)
      refine lv_if_eq (tgt := 65) hx hb zd_Mo_code_61 (by decide) (fun g14 => ?_) (fun g14 => ?_)
      · rw [if_pos g14] at hf
        refine lv_iconst (v := 0) hx hb zd_Mo_code_65 (by decide) ?_
        refine lv_istore (lv' := [(7, .int (0 : Int32)), (0, .ref (q 0)), (1, .int x1), (2, .int x2), (3, .int x3), (4, .int x4), (5, .int x5), (6, .int x6)]) hx hb zd_Mo_code_66 hl (by decide) rfl (fun ls hl => ?_)
        refine zw_Mo_code_L68 hx hb hml hown hts hr hlocks out _ (fun s13 s13_1 s13_2 s13_3 s13_4 s13_5 s13_6 H locs ls X hl hf => ?_) 300 u12.2 x1 x2 x3 x4 x5 x6 (0 : Int32) _ _ _ X (lv_sub hl [1, 2, 3, 4, 5, 6, 7, 0] rfl) hf
        refine lv_aload_n hx hb zd_Mo_code_108 rfl (lv_at hl 0 rfl) ?_
        refine zg_Mo_op hx hb hts hown X zd_Mo_code_109 ?_
        refine lv_iload_n hx hb zd_Mo_code_112 rfl (lv_at hl 1 rfl) ?_
        refine lv_iload_n hx hb zd_Mo_code_113 rfl (lv_at hl 2 rfl) ?_
        obtain ⟨hin, hf⟩ := zz_ck_some hf
        refine zs_Mo_op hx hb X hin zd_Mo_code_114 (fun H locs X => ?_)
        refine lv_aload_n hx hb zd_Mo_code_115 rfl (lv_at hl 0 rfl) ?_
        refine zg_Mo_d hx hb hts hown X zd_Mo_code_116 ?_
        refine lv_iload_n hx hb zd_Mo_code_119 rfl (lv_at hl 1 rfl) ?_
        refine lv_iload_n hx hb zd_Mo_code_120 rfl (lv_at hl 3 rfl) ?_
        obtain ⟨hin, hf⟩ := zz_ck_some hf
        refine zs_Mo_d hx hb X hin zd_Mo_code_121 (fun H locs X => ?_)
        refine lv_aload_n hx hb zd_Mo_code_122 rfl (lv_at hl 0 rfl) ?_
        refine zg_Mo_a hx hb hts hown X zd_Mo_code_123 ?_
        refine lv_iload_n hx hb zd_Mo_code_126 rfl (lv_at hl 1 rfl) ?_
        refine lv_iload hx hb zd_Mo_code_127 (lv_at hl 4 rfl) ?_
        obtain ⟨hin, hf⟩ := zz_ck_some hf
        refine zs_Mo_a hx hb X hin zd_Mo_code_129 (fun H locs X => ?_)
        refine lv_aload_n hx hb zd_Mo_code_130 rfl (lv_at hl 0 rfl) ?_
        refine zg_Mo_b hx hb hts hown X zd_Mo_code_131 ?_
        refine lv_iload_n hx hb zd_Mo_code_134 rfl (lv_at hl 1 rfl) ?_
        refine lv_iload hx hb zd_Mo_code_135 (lv_at hl 5 rfl) ?_
        obtain ⟨hin, hf⟩ := zz_ck_some hf
        refine zs_Mo_b hx hb X hin zd_Mo_code_137 (fun H locs X => ?_)
        refine lv_aload_n hx hb zd_Mo_code_138 rfl (lv_at hl 0 rfl) ?_
        refine zg_Mo_n hx hb hts hown X zd_Mo_code_139 ?_
        refine lv_iload_n hx hb zd_Mo_code_142 rfl (lv_at hl 1 rfl) ?_
        refine lv_iload hx hb zd_Mo_code_143 (lv_at hl 6 rfl) ?_
        obtain ⟨hin, hf⟩ := zz_ck_some hf
        refine zs_Mo_n hx hb X hin zd_Mo_code_145 (fun H locs X => ?_)
        exact zr_vret hx hb hr hlocks X (Option.some.inj hf) zd_Mo_code_146
      · rw [if_neg g14] at hf
        exact zr_vret hx hb hr hlocks X (Option.some.inj hf) zd_Mo_code_64
    · rw [if_neg g41] at hf
      refine lv_iload_n hx hb zd_Mo_code_21 rfl (lv_at hl 3 rfl) ?_
      refine lv_iconst (v := 0) hx hb zd_Mo_code_22 (by decide) ?_
      refine lv_bipush (v := 7) hx hb zd_Mo_code_23 (by decide) ?_
      obtain ⟨r16, h40, hf⟩ := Option.bind_eq_some_iff.mp hf
      refine zr_csP (As := [.int x3, .int (0 : Int32), .int (7 : Int32)]) (rest := [.ref (q 0)]) hx hb hml hown hts hl.1 X (zk_Mo_in l D q cI cZ h40) zkw_Mo_in zl_Mo_79 rfl rfl (Nat.le_of_ble_eq_true rfl) ⟨rfl, rfl⟩ ⟨Nat.le_of_ble_eq_true rfl, Nat.le_of_ble_eq_true rfl⟩ zd_Mo_code_25 (fun H locs X => ?_)
      refine lv_if_eq (tgt := 57) hx hb zd_Mo_code_28 (by decide) (fun g39 => ?_) (fun g39 => ?_)
      · rw [if_pos g39] at hf
        refine lv_iconst (v := 0) hx hb zd_Mo_code_57 (by decide) ?_
        obtain ⟨u17, h20, hf⟩ := Option.bind_eq_some_iff.mp hf
        refine zr_cvI (As := [.int (0 : Int32)]) (rest := []) (q0 := 0) (ci := 9) hx hb hml hown hts hl.1 X (zk_Mo_bad l D q cI cZ h20) zkw_Mo_bad zl_Mo_87 rfl rfl (Nat.le_of_ble_eq_true rfl) rfl rfl ⟨rfl, rfl⟩ ⟨Nat.le_of_ble_eq_true rfl, Nat.le_of_ble_eq_true rfl⟩ zd_Mo_code_58 (fun H locs X => ?_)
        refine lv_if_eq (tgt := 65) hx hb zd_Mo_code_61 (by decide) (fun g19 => ?_) (fun g19 => ?_)
        · rw [if_pos g19] at hf
          refine lv_iconst (v := 0) hx hb zd_Mo_code_65 (by decide) ?_
          refine lv_istore (lv' := [(7, .int (0 : Int32)), (0, .ref (q 0)), (1, .int x1), (2, .int x2), (3, .int x3), (4, .int x4), (5, .int x5), (6, .int x6)]) hx hb zd_Mo_code_66 hl (by decide) rfl (fun ls hl => ?_)
          refine zw_Mo_code_L68 hx hb hml hown hts hr hlocks out _ (fun s18 s18_1 s18_2 s18_3 s18_4 s18_5 s18_6 H locs ls X hl hf => ?_) 300 u17.2 x1 x2 x3 x4 x5 x6 (0 : Int32) _ _ _ X (lv_sub hl [1, 2, 3, 4, 5, 6, 7, 0] rfl) hf
          refine lv_aload_n hx hb zd_Mo_code_108 rfl (lv_at hl 0 rfl) ?_
          refine zg_Mo_op hx hb hts hown X zd_Mo_code_109 ?_
          refine lv_iload_n hx hb zd_Mo_code_112 rfl (lv_at hl 1 rfl) ?_
          refine lv_iload_n hx hb zd_Mo_code_113 rfl (lv_at hl 2 rfl) ?_
          obtain ⟨hin, hf⟩ := zz_ck_some hf
          refine zs_Mo_op hx hb X hin zd_Mo_code_114 (fun H locs X => ?_)
          refine lv_aload_n hx hb zd_Mo_code_115 rfl (lv_at hl 0 rfl) ?_
          refine zg_Mo_d hx hb hts hown X zd_Mo_code_116 ?_
          refine lv_iload_n hx hb zd_Mo_code_119 rfl (lv_at hl 1 rfl) ?_
          refine lv_iload_n hx hb zd_Mo_code_120 rfl (lv_at hl 3 rfl) ?_
          obtain ⟨hin, hf⟩ := zz_ck_some hf
          refine zs_Mo_d hx hb X hin zd_Mo_code_121 (fun H locs X => ?_)
          refine lv_aload_n hx hb zd_Mo_code_122 rfl (lv_at hl 0 rfl) ?_
          refine zg_Mo_a hx hb hts hown X zd_Mo_code_123 ?_
          refine lv_iload_n hx hb zd_Mo_code_126 rfl (lv_at hl 1 rfl) ?_
          refine lv_iload hx hb zd_Mo_code_127 (lv_at hl 4 rfl) ?_
          obtain ⟨hin, hf⟩ := zz_ck_some hf
          refine zs_Mo_a hx hb X hin zd_Mo_code_129 (fun H locs X => ?_)
          refine lv_aload_n hx hb zd_Mo_code_130 rfl (lv_at hl 0 rfl) ?_
          refine zg_Mo_b hx hb hts hown X zd_Mo_code_131 ?_
          refine lv_iload_n hx hb zd_Mo_code_134 rfl (lv_at hl 1 rfl) ?_
          refine lv_iload hx hb zd_Mo_code_135 (lv_at hl 5 rfl) ?_
          obtain ⟨hin, hf⟩ := zz_ck_some hf
          refine zs_Mo_b hx hb X hin zd_Mo_code_137 (fun H locs X => ?_)
          refine lv_aload_n hx hb zd_Mo_code_138 rfl (lv_at hl 0 rfl) ?_
          refine zg_Mo_n hx hb hts hown X zd_Mo_code_139 ?_
          refine lv_iload_n hx hb zd_Mo_code_142 rfl (lv_at hl 1 rfl) ?_
          refine lv_iload hx hb zd_Mo_code_143 (lv_at hl 6 rfl) ?_
          obtain ⟨hin, hf⟩ := zz_ck_some hf
          refine zs_Mo_n hx hb X hin zd_Mo_code_145 (fun H locs X => ?_)
          exact zr_vret hx hb hr hlocks X (Option.some.inj hf) zd_Mo_code_146
        · rw [if_neg g19] at hf
          exact zr_vret hx hb hr hlocks X (Option.some.inj hf) zd_Mo_code_64
      · rw [if_neg g39] at hf
        refine lv_iload hx hb zd_Mo_code_31 (lv_at hl 4 rfl) ?_
        refine lv_iconst (v := 0) hx hb zd_Mo_code_33 (by decide) ?_
        refine lv_bipush (v := 7) hx hb zd_Mo_code_34 (by decide) ?_
        obtain ⟨r21, h38, hf⟩ := Option.bind_eq_some_iff.mp hf
        refine zr_csP (As := [.int x4, .int (0 : Int32), .int (7 : Int32)]) (rest := [.ref (q 0)]) hx hb hml hown hts hl.1 X (zk_Mo_in l D q cI cZ h38) zkw_Mo_in zl_Mo_79 rfl rfl (Nat.le_of_ble_eq_true rfl) ⟨rfl, rfl⟩ ⟨Nat.le_of_ble_eq_true rfl, Nat.le_of_ble_eq_true rfl⟩ zd_Mo_code_36 (fun H locs X => ?_)
        refine lv_if_eq (tgt := 57) hx hb zd_Mo_code_39 (by decide) (fun g37 => ?_) (fun g37 => ?_)
        · rw [if_pos g37] at hf
          refine lv_iconst (v := 0) hx hb zd_Mo_code_57 (by decide) ?_
          obtain ⟨u22, h25, hf⟩ := Option.bind_eq_some_iff.mp hf
          refine zr_cvI (As := [.int (0 : Int32)]) (rest := []) (q0 := 0) (ci := 9) hx hb hml hown hts hl.1 X (zk_Mo_bad l D q cI cZ h25) zkw_Mo_bad zl_Mo_87 rfl rfl (Nat.le_of_ble_eq_true rfl) rfl rfl ⟨rfl, rfl⟩ ⟨Nat.le_of_ble_eq_true rfl, Nat.le_of_ble_eq_true rfl⟩ zd_Mo_code_58 (fun H locs X => ?_)
          refine lv_if_eq (tgt := 65) hx hb zd_Mo_code_61 (by decide) (fun g24 => ?_) (fun g24 => ?_)
          · rw [if_pos g24] at hf
            refine lv_iconst (v := 0) hx hb zd_Mo_code_65 (by decide) ?_
            refine lv_istore (lv' := [(7, .int (0 : Int32)), (0, .ref (q 0)), (1, .int x1), (2, .int x2), (3, .int x3), (4, .int x4), (5, .int x5), (6, .int x6)]) hx hb zd_Mo_code_66 hl (by decide) rfl (fun ls hl => ?_)
            refine zw_Mo_code_L68 hx hb hml hown hts hr hlocks out _ (fun s23 s23_1 s23_2 s23_3 s23_4 s23_5 s23_6 H locs ls X hl hf => ?_) 300 u22.2 x1 x2 x3 x4 x5 x6 (0 : Int32) _ _ _ X (lv_sub hl [1, 2, 3, 4, 5, 6, 7, 0] rfl) hf
            refine lv_aload_n hx hb zd_Mo_code_108 rfl (lv_at hl 0 rfl) ?_
            refine zg_Mo_op hx hb hts hown X zd_Mo_code_109 ?_
            refine lv_iload_n hx hb zd_Mo_code_112 rfl (lv_at hl 1 rfl) ?_
            refine lv_iload_n hx hb zd_Mo_code_113 rfl (lv_at hl 2 rfl) ?_
            obtain ⟨hin, hf⟩ := zz_ck_some hf
            refine zs_Mo_op hx hb X hin zd_Mo_code_114 (fun H locs X => ?_)
            refine lv_aload_n hx hb zd_Mo_code_115 rfl (lv_at hl 0 rfl) ?_
            refine zg_Mo_d hx hb hts hown X zd_Mo_code_116 ?_
            refine lv_iload_n hx hb zd_Mo_code_119 rfl (lv_at hl 1 rfl) ?_
            refine lv_iload_n hx hb zd_Mo_code_120 rfl (lv_at hl 3 rfl) ?_
            obtain ⟨hin, hf⟩ := zz_ck_some hf
            refine zs_Mo_d hx hb X hin zd_Mo_code_121 (fun H locs X => ?_)
            refine lv_aload_n hx hb zd_Mo_code_122 rfl (lv_at hl 0 rfl) ?_
            refine zg_Mo_a hx hb hts hown X zd_Mo_code_123 ?_
            refine lv_iload_n hx hb zd_Mo_code_126 rfl (lv_at hl 1 rfl) ?_
            refine lv_iload hx hb zd_Mo_code_127 (lv_at hl 4 rfl) ?_
            obtain ⟨hin, hf⟩ := zz_ck_some hf
            refine zs_Mo_a hx hb X hin zd_Mo_code_129 (fun H locs X => ?_)
            refine lv_aload_n hx hb zd_Mo_code_130 rfl (lv_at hl 0 rfl) ?_
            refine zg_Mo_b hx hb hts hown X zd_Mo_code_131 ?_
            refine lv_iload_n hx hb zd_Mo_code_134 rfl (lv_at hl 1 rfl) ?_
            refine lv_iload hx hb zd_Mo_code_135 (lv_at hl 5 rfl) ?_
            obtain ⟨hin, hf⟩ := zz_ck_some hf
            refine zs_Mo_b hx hb X hin zd_Mo_code_137 (fun H locs X => ?_)
            refine lv_aload_n hx hb zd_Mo_code_138 rfl (lv_at hl 0 rfl) ?_
            refine zg_Mo_n hx hb hts hown X zd_Mo_code_139 ?_
            refine lv_iload_n hx hb zd_Mo_code_142 rfl (lv_at hl 1 rfl) ?_
            refine lv_iload hx hb zd_Mo_code_143 (lv_at hl 6 rfl) ?_
            obtain ⟨hin, hf⟩ := zz_ck_some hf
            refine zs_Mo_n hx hb X hin zd_Mo_code_145 (fun H locs X => ?_)
            exact zr_vret hx hb hr hlocks X (Option.some.inj hf) zd_Mo_code_146
          · rw [if_neg g24] at hf
            exact zr_vret hx hb hr hlocks X (Option.some.inj hf) zd_Mo_code_64
        · rw [if_neg g37] at hf
          refine lv_iload hx hb zd_Mo_code_42 (lv_at hl 5 rfl) ?_
          refine lv_iconst (v := 0) hx hb zd_Mo_code_44 (by decide) ?_
          refine lv_bipush (v := 7) hx hb zd_Mo_code_45 (by decide) ?_
          obtain ⟨r26, h36, hf⟩ := Option.bind_eq_some_iff.mp hf
          refine zr_csP (As := [.int x5, .int (0 : Int32), .int (7 : Int32)]) (rest := [.ref (q 0)]) hx hb hml hown hts hl.1 X (zk_Mo_in l D q cI cZ h36) zkw_Mo_in zl_Mo_79 rfl rfl (Nat.le_of_ble_eq_true rfl) ⟨rfl, rfl⟩ ⟨Nat.le_of_ble_eq_true rfl, Nat.le_of_ble_eq_true rfl⟩ zd_Mo_code_47 (fun H locs X => ?_)
          refine lv_if_eq (tgt := 57) hx hb zd_Mo_code_50 (by decide) (fun g35 => ?_) (fun g35 => ?_)
          · rw [if_pos g35] at hf
            refine lv_iconst (v := 0) hx hb zd_Mo_code_57 (by decide) ?_
            obtain ⟨u27, h30, hf⟩ := Option.bind_eq_some_iff.mp hf
            refine zr_cvI (As := [.int (0 : Int32)]) (rest := []) (q0 := 0) (ci := 9) hx hb hml hown hts hl.1 X (zk_Mo_bad l D q cI cZ h30) zkw_Mo_bad zl_Mo_87 rfl rfl (Nat.le_of_ble_eq_true rfl) rfl rfl ⟨rfl, rfl⟩ ⟨Nat.le_of_ble_eq_true rfl, Nat.le_of_ble_eq_true rfl⟩ zd_Mo_code_58 (fun H locs X => ?_)
            refine lv_if_eq (tgt := 65) hx hb zd_Mo_code_61 (by decide) (fun g29 => ?_) (fun g29 => ?_)
            · rw [if_pos g29] at hf
              refine lv_iconst (v := 0) hx hb zd_Mo_code_65 (by decide) ?_
              refine lv_istore (lv' := [(7, .int (0 : Int32)), (0, .ref (q 0)), (1, .int x1), (2, .int x2), (3, .int x3), (4, .int x4), (5, .int x5), (6, .int x6)]) hx hb zd_Mo_code_66 hl (by decide) rfl (fun ls hl => ?_)
              refine zw_Mo_code_L68 hx hb hml hown hts hr hlocks out _ (fun s28 s28_1 s28_2 s28_3 s28_4 s28_5 s28_6 H locs ls X hl hf => ?_) 300 u27.2 x1 x2 x3 x4 x5 x6 (0 : Int32) _ _ _ X (lv_sub hl [1, 2, 3, 4, 5, 6, 7, 0] rfl) hf
              refine lv_aload_n hx hb zd_Mo_code_108 rfl (lv_at hl 0 rfl) ?_
              refine zg_Mo_op hx hb hts hown X zd_Mo_code_109 ?_
              refine lv_iload_n hx hb zd_Mo_code_112 rfl (lv_at hl 1 rfl) ?_
              refine lv_iload_n hx hb zd_Mo_code_113 rfl (lv_at hl 2 rfl) ?_
              obtain ⟨hin, hf⟩ := zz_ck_some hf
              refine zs_Mo_op hx hb X hin zd_Mo_code_114 (fun H locs X => ?_)
              refine lv_aload_n hx hb zd_Mo_code_115 rfl (lv_at hl 0 rfl) ?_
              refine zg_Mo_d hx hb hts hown X zd_Mo_code_116 ?_
              refine lv_iload_n hx hb zd_Mo_code_119 rfl (lv_at hl 1 rfl) ?_
              refine lv_iload_n hx hb zd_Mo_code_120 rfl (lv_at hl 3 rfl) ?_
              obtain ⟨hin, hf⟩ := zz_ck_some hf
              refine zs_Mo_d hx hb X hin zd_Mo_code_121 (fun H locs X => ?_)
              refine lv_aload_n hx hb zd_Mo_code_122 rfl (lv_at hl 0 rfl) ?_
              refine zg_Mo_a hx hb hts hown X zd_Mo_code_123 ?_
              refine lv_iload_n hx hb zd_Mo_code_126 rfl (lv_at hl 1 rfl) ?_
              refine lv_iload hx hb zd_Mo_code_127 (lv_at hl 4 rfl) ?_
              obtain ⟨hin, hf⟩ := zz_ck_some hf
              refine zs_Mo_a hx hb X hin zd_Mo_code_129 (fun H locs X => ?_)
              refine lv_aload_n hx hb zd_Mo_code_130 rfl (lv_at hl 0 rfl) ?_
              refine zg_Mo_b hx hb hts hown X zd_Mo_code_131 ?_
              refine lv_iload_n hx hb zd_Mo_code_134 rfl (lv_at hl 1 rfl) ?_
              refine lv_iload hx hb zd_Mo_code_135 (lv_at hl 5 rfl) ?_
              obtain ⟨hin, hf⟩ := zz_ck_some hf
              refine zs_Mo_b hx hb X hin zd_Mo_code_137 (fun H locs X => ?_)
              refine lv_aload_n hx hb zd_Mo_code_138 rfl (lv_at hl 0 rfl) ?_
              refine zg_Mo_n hx hb hts hown X zd_Mo_code_139 ?_
              refine lv_iload_n hx hb zd_Mo_code_142 rfl (lv_at hl 1 rfl) ?_
              refine lv_iload hx hb zd_Mo_code_143 (lv_at hl 6 rfl) ?_
              obtain ⟨hin, hf⟩ := zz_ck_some hf
              refine zs_Mo_n hx hb X hin zd_Mo_code_145 (fun H locs X => ?_)
              exact zr_vret hx hb hr hlocks X (Option.some.inj hf) zd_Mo_code_146
            · rw [if_neg g29] at hf
              exact zr_vret hx hb hr hlocks X (Option.some.inj hf) zd_Mo_code_64
          · rw [if_neg g35] at hf
            refine lv_iconst (v := 1) hx hb zd_Mo_code_53 (by decide) ?_
            refine lv_goto (tgt := 58) hx hb zd_Mo_code_54 (by decide) ?_
            obtain ⟨u31, h34, hf⟩ := Option.bind_eq_some_iff.mp hf
            refine zr_cvI (As := [.int (1 : Int32)]) (rest := []) (q0 := 0) (ci := 9) hx hb hml hown hts hl.1 X (zk_Mo_bad l D q cI cZ h34) zkw_Mo_bad zl_Mo_87 rfl rfl (Nat.le_of_ble_eq_true rfl) rfl rfl ⟨rfl, rfl⟩ ⟨Nat.le_of_ble_eq_true rfl, Nat.le_of_ble_eq_true rfl⟩ zd_Mo_code_58 (fun H locs X => ?_)
            refine lv_if_eq (tgt := 65) hx hb zd_Mo_code_61 (by decide) (fun g33 => ?_) (fun g33 => ?_)
            · rw [if_pos g33] at hf
              refine lv_iconst (v := 0) hx hb zd_Mo_code_65 (by decide) ?_
              refine lv_istore (lv' := [(7, .int (0 : Int32)), (0, .ref (q 0)), (1, .int x1), (2, .int x2), (3, .int x3), (4, .int x4), (5, .int x5), (6, .int x6)]) hx hb zd_Mo_code_66 hl (by decide) rfl (fun ls hl => ?_)
              refine zw_Mo_code_L68 hx hb hml hown hts hr hlocks out _ (fun s32 s32_1 s32_2 s32_3 s32_4 s32_5 s32_6 H locs ls X hl hf => ?_) 300 u31.2 x1 x2 x3 x4 x5 x6 (0 : Int32) _ _ _ X (lv_sub hl [1, 2, 3, 4, 5, 6, 7, 0] rfl) hf
              refine lv_aload_n hx hb zd_Mo_code_108 rfl (lv_at hl 0 rfl) ?_
              refine zg_Mo_op hx hb hts hown X zd_Mo_code_109 ?_
              refine lv_iload_n hx hb zd_Mo_code_112 rfl (lv_at hl 1 rfl) ?_
              refine lv_iload_n hx hb zd_Mo_code_113 rfl (lv_at hl 2 rfl) ?_
              obtain ⟨hin, hf⟩ := zz_ck_some hf
              refine zs_Mo_op hx hb X hin zd_Mo_code_114 (fun H locs X => ?_)
              refine lv_aload_n hx hb zd_Mo_code_115 rfl (lv_at hl 0 rfl) ?_
              refine zg_Mo_d hx hb hts hown X zd_Mo_code_116 ?_
              refine lv_iload_n hx hb zd_Mo_code_119 rfl (lv_at hl 1 rfl) ?_
              refine lv_iload_n hx hb zd_Mo_code_120 rfl (lv_at hl 3 rfl) ?_
              obtain ⟨hin, hf⟩ := zz_ck_some hf
              refine zs_Mo_d hx hb X hin zd_Mo_code_121 (fun H locs X => ?_)
              refine lv_aload_n hx hb zd_Mo_code_122 rfl (lv_at hl 0 rfl) ?_
              refine zg_Mo_a hx hb hts hown X zd_Mo_code_123 ?_
              refine lv_iload_n hx hb zd_Mo_code_126 rfl (lv_at hl 1 rfl) ?_
              refine lv_iload hx hb zd_Mo_code_127 (lv_at hl 4 rfl) ?_
              obtain ⟨hin, hf⟩ := zz_ck_some hf
              refine zs_Mo_a hx hb X hin zd_Mo_code_129 (fun H locs X => ?_)
              refine lv_aload_n hx hb zd_Mo_code_130 rfl (lv_at hl 0 rfl) ?_
              refine zg_Mo_b hx hb hts hown X zd_Mo_code_131 ?_
              refine lv_iload_n hx hb zd_Mo_code_134 rfl (lv_at hl 1 rfl) ?_
              refine lv_iload hx hb zd_Mo_code_135 (lv_at hl 5 rfl) ?_
              obtain ⟨hin, hf⟩ := zz_ck_some hf
              refine zs_Mo_b hx hb X hin zd_Mo_code_137 (fun H locs X => ?_)
              refine lv_aload_n hx hb zd_Mo_code_138 rfl (lv_at hl 0 rfl) ?_
              refine zg_Mo_n hx hb hts hown X zd_Mo_code_139 ?_
              refine lv_iload_n hx hb zd_Mo_code_142 rfl (lv_at hl 1 rfl) ?_
              refine lv_iload hx hb zd_Mo_code_143 (lv_at hl 6 rfl) ?_
              obtain ⟨hin, hf⟩ := zz_ck_some hf
              refine zs_Mo_n hx hb X hin zd_Mo_code_145 (fun H locs X => ?_)
              exact zr_vret hx hb hr hlocks X (Option.some.inj hf) zd_Mo_code_146
            · rw [if_neg g33] at hf
              exact zr_vret hx hb hr hlocks X (Option.some.inj hf) zd_Mo_code_64

set_option maxRecDepth 100000 in
set_option maxHeartbeats 4000000 in
theorem zk_Mo_put (l : Launch) (D : va_G) (q : Nat → Nat) (cI cZ : ClassId) {σ : St} {x1 x2 x3 : Int32} {out : St} (hf : zf_Mo_put σ x1 x2 x3 = some out) : zV l D vwCl (zz_tys cI cZ) (wM q cI cZ) zy_Mo_put (.code zy_Mo_put zc_Mo_put 4 none :: zz_WS) zm_Mo_put [.ref (q 0), .int x1, .int x2, .int x3] σ out := by
  refine zV_of (by decide +kernel) (Nat.le_of_ble_eq_true rfl) (fun p e s m below meth c A ls hx hb hml hown hts hr hlocks X hl => ?_)
  have hl : lv_has ls 4 [(0, .ref (q 0)), (1, .int x1), (2, .int x2), (3, .int x3)] := hl
  unfold zf_Mo_put at hf
  refine lv_iload_n hx hb zd_Mo_put_0 rfl (lv_at hl 1 rfl) ?_
  refine lv_if_ne (tgt := 5) hx hb zd_Mo_put_1 (by decide) (fun g1 => ?_) (fun g1 => ?_)
  · rw [if_neg g1] at hf
    refine lv_aload_n hx hb zd_Mo_put_5 rfl (lv_at hl 0 rfl) ?_
    refine zg_Mo_register hx hb hts hown X zd_Mo_put_6 ?_
    refine lv_iload_n hx hb zd_Mo_put_9 rfl (lv_at hl 1 rfl) ?_
    refine lv_iload_n hx hb zd_Mo_put_10 rfl (lv_at hl 2 rfl) ?_
    obtain ⟨hin, hf⟩ := zz_ck_some hf
    refine zs_Mo_register hx hb X hin zd_Mo_put_11 (fun H locs X => ?_)
    refine lv_aload_n hx hb zd_Mo_put_12 rfl (lv_at hl 0 rfl) ?_
    refine zg_Mo_sure hx hb hts hown X zd_Mo_put_13 ?_
    refine lv_iload_n hx hb zd_Mo_put_16 rfl (lv_at hl 1 rfl) ?_
    refine lv_iload_n hx hb zd_Mo_put_17 rfl (lv_at hl 3 rfl) ?_
    obtain ⟨hin, hf⟩ := zz_ck_some hf
    refine zs_Mo_sure hx hb X hin zd_Mo_put_18 (fun H locs X => ?_)
    exact zr_vret hx hb hr hlocks X (Option.some.inj hf) zd_Mo_put_19
  · rw [if_pos g1] at hf
    exact zr_vret hx hb hr hlocks X (Option.some.inj hf) zd_Mo_put_4

set_option maxRecDepth 100000 in
set_option maxHeartbeats 4000000 in
theorem zw_Mo_start_L27 {p : Program} {l : Launch} {e : Env} {s : State} {m : MethodId} {args : Array Value} {below : List Frame} {meth : Method} {c : Code} {D : va_G} {q : Nat → Nat} {cI cZ : ClassId} {A : Nat → Prop} (hx : p.tables.exec = Jvm.exec) (hb : c.code = zc_Mo_start) (hml : c.maxLocals = 3) (hown : s.vm.findClass zR_Mo = some m.cls) (hts : ∀ w ∈ zz_WS, w.before args s = true) (hr : meth.sig.returnType = none) (hlocks : meth.locks = false) (out : St) (kx : St → Option St) (hkx : ∀ (σ : St) (H : Heap) (locs : List Loc) (ls : Array Slot), zz_X D vwCl (zz_tys cI cZ) A s H locs ((wM q cI cZ) σ) → lv_has ls 3 [] → kx σ = some out → W p l e zm_Mo_start s m args below meth c H locs 0 0 (MQ below (zq_V D vwCl (zz_tys cI cZ) (wM q cI cZ) A out) args s 0 0 A) (F0 m 47 ls [])) : ∀ (n : Nat) (σ : St) (x2 : Int32) (H : Heap) (locs : List Loc) (ls : Array Slot), zz_X D vwCl (zz_tys cI cZ) A s H locs ((wM q cI cZ) σ) → lv_has ls 3 [(0, .ref (q 0)), (2, .int x2)] → zf_Mo_start_L27 kx n σ x2 = some out → W p l e zm_Mo_start s m args below meth c H locs 0 0 (MQ below (zq_V D vwCl (zz_tys cI cZ) (wM q cI cZ) A out) args s 0 0 A) (F0 m 27 ls []) := by
  intro n
  induction n with
  | zero =>
    intro σ x2 H locs ls X hl hf
    exact absurd hf (by simp [zf_Mo_start_L27])
  | succ n ih =>
    intro σ x2 H locs ls X hl hf
    rw [zf_Mo_start_L27] at hf
    refine lv_iload_n hx hb zd_Mo_start_27 rfl (lv_at hl 1 rfl) ?_
    refine lv_bipush (v := 8) hx hb zd_Mo_start_28 (by decide) ?_
    refine lv_icmp_ge (tgt := 47) hx hb zd_Mo_start_30 (by decide) (fun g5 => ?_) (fun g5 => ?_)
    · rw [if_pos g5] at hf
      exact hkx σ _ _ _ X (lv_sub hl [] rfl) hf
    · rw [if_neg g5] at hf
      refine lv_aload_n hx hb zd_Mo_start_33 rfl (lv_at hl 0 rfl) ?_
      refine lv_iload_n hx hb zd_Mo_start_34 rfl (lv_at hl 1 rfl) ?_
      refine lv_iconst (v := 0) hx hb zd_Mo_start_35 (by decide) ?_
      refine lv_bipush (v := 15) hx hb zd_Mo_start_36 (by decide) ?_
      obtain ⟨u3, h4, hf⟩ := Option.bind_eq_some_iff.mp hf
      refine zr_cvV (As := [.int x2, .int (0 : Int32), .int (15 : Int32)]) (rest := []) (q0 := 0) (ci := 9) hx hb hml hown hts hl.1 X (zk_Mo_put l D q cI cZ h4) zkw_Mo_put zl_Mo_98 rfl rfl (Nat.le_of_ble_eq_true rfl) rfl rfl ⟨rfl, rfl⟩ ⟨Nat.le_of_ble_eq_true rfl, Nat.le_of_ble_eq_true rfl⟩ zd_Mo_start_38 (fun H locs X => ?_)
      refine lv_iinc (v := (x2 + (1 : Int32))) (lv' := [(2, .int (x2 + (1 : Int32))), (0, .ref (q 0))]) hx hb zd_Mo_start_41 hl (k := 1) rfl rfl (by decide) rfl (fun ls hl => ?_)
      refine lv_goto (tgt := 27) hx hb zd_Mo_start_44 (by decide) ?_
      exact ih u3 (x2 + (1 : Int32)) _ _ _ X (lv_sub hl [1, 0] rfl) hf

set_option maxRecDepth 100000 in
set_option maxHeartbeats 4000000 in
theorem zk_Mo_start (l : Launch) (D : va_G) (q : Nat → Nat) (cI cZ : ClassId) {σ : St} {x1 : Int32} {out : St} (hf : zf_Mo_start σ x1 = some out) : zV l D vwCl (zz_tys cI cZ) (wM q cI cZ) zy_Mo_start (.code zy_Mo_start zc_Mo_start 3 none :: zz_WS) zm_Mo_start [.ref (q 0), .int x1] σ out := by
  refine zV_of (by decide +kernel) (Nat.le_of_ble_eq_true rfl) (fun p e s m below meth c A ls hx hb hml hown hts hr hlocks X hl => ?_)
  have hl : lv_has ls 3 [(0, .ref (q 0)), (1, .int x1)] := hl
  unfold zf_Mo_start at hf
  refine lv_aload_n hx hb zd_Mo_start_0 rfl (lv_at hl 0 rfl) ?_
  refine lv_iload_n hx hb zd_Mo_start_1 rfl (lv_at hl 1 rfl) ?_
  refine lv_iconst (v := 0) hx hb zd_Mo_start_2 (by decide) ?_
  refine lv_bipush (v := 31) hx hb zd_Mo_start_3 (by decide) ?_
  obtain ⟨r1, h9, hf⟩ := Option.bind_eq_some_iff.mp hf
  refine zr_csP (As := [.int x1, .int (0 : Int32), .int (31 : Int32)]) (rest := [.ref (q 0)]) hx hb hml hown hts hl.1 X (zk_Mo_in l D q cI cZ h9) zkw_Mo_in zl_Mo_79 rfl rfl (Nat.le_of_ble_eq_true rfl) ⟨rfl, rfl⟩ ⟨Nat.le_of_ble_eq_true rfl, Nat.le_of_ble_eq_true rfl⟩ zd_Mo_start_5 (fun H locs X => ?_)
  obtain ⟨u2, h8, hf⟩ := Option.bind_eq_some_iff.mp hf
  refine zr_cvI (As := [.int r1]) (rest := []) (q0 := 0) (ci := 9) hx hb hml hown hts hl.1 X (zk_Mo_bad l D q cI cZ h8) zkw_Mo_bad zl_Mo_87 rfl rfl (Nat.le_of_ble_eq_true rfl) rfl rfl ⟨rfl, rfl⟩ ⟨Nat.le_of_ble_eq_true rfl, Nat.le_of_ble_eq_true rfl⟩ zd_Mo_start_8 (fun H locs X => ?_)
  refine lv_if_eq (tgt := 15) hx hb zd_Mo_start_11 (by decide) (fun g7 => ?_) (fun g7 => ?_)
  · rw [if_pos g7] at hf
    refine lv_aload_n hx hb zd_Mo_start_15 rfl (lv_at hl 0 rfl) ?_
    refine lv_iload_n hx hb zd_Mo_start_16 rfl (lv_at hl 1 rfl) ?_
    refine zp_Mo_place hx hb hts hown X zd_Mo_start_17 (fun H locs X => ?_)
    refine lv_aload_n hx hb zd_Mo_start_20 rfl (lv_at hl 0 rfl) ?_
    refine lv_iconst (v := 0) hx hb zd_Mo_start_21 (by decide) ?_
    obtain ⟨hz, hf⟩ := zz_kz_some hf
    refine zp_Mo_stopped hx hb hts hown X hz zd_Mo_start_22 (fun H locs X => ?_)
    refine lv_iconst (v := 0) hx hb zd_Mo_start_25 (by decide) ?_
    refine lv_istore_n (lv' := [(2, .int (0 : Int32)), (0, .ref (q 0)), (1, .int x1)]) hx hb zd_Mo_start_26 rfl hl (by decide) rfl (fun ls hl => ?_)
    refine zw_Mo_start_L27 hx hb hml hown hts hr hlocks out _ (fun s6 H locs ls X hl hf => ?_) 300 (zz_put (zz_put u2.2 24 0 x1) 28 0 (0 : Int32)) (0 : Int32) _ _ _ X (lv_sub hl [1, 0] rfl) hf
    exact zr_vret hx hb hr hlocks X (Option.some.inj hf) zd_Mo_start_47
  · rw [if_neg g7] at hf
    exact zr_vret hx hb hr hlocks X (Option.some.inj hf) zd_Mo_start_14

set_option maxRecDepth 100000 in
set_option maxHeartbeats 4000000 in
theorem zw_Mo_note_L2 {p : Program} {l : Launch} {e : Env} {s : State} {m : MethodId} {args : Array Value} {below : List Frame} {meth : Method} {c : Code} {D : va_G} {q : Nat → Nat} {cI cZ : ClassId} {A : Nat → Prop} (hx : p.tables.exec = Jvm.exec) (hb : c.code = zc_Mo_note) (hml : c.maxLocals = 4) (hown : s.vm.findClass zR_Mo = some m.cls) (hts : ∀ w ∈ zz_WS, w.before args s = true) (hr : meth.sig.returnType = none) (hlocks : meth.locks = false) (out : St) (kx : St → Int32 → Int32 → Option St) (hkx : ∀ (σ : St) (x1 x2 : Int32) (H : Heap) (locs : List Loc) (ls : Array Slot), zz_X D vwCl (zz_tys cI cZ) A s H locs ((wM q cI cZ) σ) → lv_has ls 4 [(0, .ref (q 0)), (1, .int x1), (2, .int x2)] → kx σ x1 x2 = some out → W p l e zm_Mo_note s m args below meth c H locs 0 0 (MQ below (zq_V D vwCl (zz_tys cI cZ) (wM q cI cZ) A out) args s 0 0 A) (F0 m 53 ls [])) : ∀ (n : Nat) (σ : St) (x1 x2 x3 : Int32) (H : Heap) (locs : List Loc) (ls : Array Slot), zz_X D vwCl (zz_tys cI cZ) A s H locs ((wM q cI cZ) σ) → lv_has ls 4 [(0, .ref (q 0)), (1, .int x1), (2, .int x2), (3, .int x3)] → zf_Mo_note_L2 kx n σ x1 x2 x3 = some out → W p l e zm_Mo_note s m args below meth c H locs 0 0 (MQ below (zq_V D vwCl (zz_tys cI cZ) (wM q cI cZ) A out) args s 0 0 A) (F0 m 2 ls []) := by
  intro n
  induction n with
  | zero =>
    intro σ x1 x2 x3 H locs ls X hl hf
    exact absurd hf (by simp [zf_Mo_note_L2])
  | succ n ih =>
    intro σ x1 x2 x3 H locs ls X hl hf
    rw [zf_Mo_note_L2] at hf
    refine lv_iload_n hx hb zd_Mo_note_2 rfl (lv_at hl 3 rfl) ?_
    refine lv_aload_n hx hb zd_Mo_note_3 rfl (lv_at hl 0 rfl) ?_
    refine zg_Mo_findings hx hb hts hown X zd_Mo_note_4 ?_
    refine lv_icmp_ge (tgt := 53) hx hb zd_Mo_note_7 (by decide) (fun g3 => ?_) (fun g3 => ?_)
    · rw [if_pos g3] at hf
      exact hkx σ x1 x2 _ _ _ X (lv_sub hl [0, 1, 2] rfl) hf
    · rw [if_neg g3] at hf
      refine lv_aload_n hx hb zd_Mo_note_10 rfl (lv_at hl 0 rfl) ?_
      refine zg_Mo_kind hx hb hts hown X zd_Mo_note_11 ?_
      refine lv_iload_n hx hb zd_Mo_note_14 rfl (lv_at hl 3 rfl) ?_
      obtain ⟨hin, hf⟩ := zz_ck_some hf
      refine za_Mo_kind hx hb X hin zd_Mo_note_15 ?_
      refine lv_iload_n hx hb zd_Mo_note_16 rfl (lv_at hl 1 rfl) ?_
      refine lv_icmp_ne (tgt := 47) hx hb zd_Mo_note_17 (by decide) (fun g2 => ?_) (fun g2 => ?_)
      · rw [if_neg g2] at hf
        refine lv_iinc (v := (x3 + (1 : Int32))) (lv' := [(3, .int (x3 + (1 : Int32))), (0, .ref (q 0)), (1, .int x1), (2, .int x2)]) hx hb zd_Mo_note_47 hl (k := 3) rfl rfl (by decide) rfl (fun ls hl => ?_)
        refine lv_goto (tgt := 2) hx hb zd_Mo_note_50 (by decide) ?_
        exact ih σ x1 x2 (x3 + (1 : Int32)) _ _ _ X (lv_sub hl [1, 2, 3, 0] rfl) hf
      · rw [if_pos g2] at hf
        refine lv_aload_n hx hb zd_Mo_note_20 rfl (lv_at hl 0 rfl) ?_
        refine zg_Mo_at hx hb hts hown X zd_Mo_note_21 ?_
        refine lv_iload_n hx hb zd_Mo_note_24 rfl (lv_at hl 3 rfl) ?_
        obtain ⟨hin, hf⟩ := zz_ck_some hf
        refine za_Mo_at hx hb X hin zd_Mo_note_25 ?_
        refine lv_aload_n hx hb zd_Mo_note_26 rfl (lv_at hl 0 rfl) ?_
        refine zg_Mo_place hx hb hts hown X zd_Mo_note_27 ?_
        refine lv_icmp_eq (tgt := 36) hx hb zd_Mo_note_30 (by decide) (fun g1 => ?_) (fun g1 => ?_)
        · rw [if_pos g1] at hf
          refine lv_aload_n hx hb zd_Mo_note_36 rfl (lv_at hl 0 rfl) ?_
          refine zg_Mo_often hx hb hts hown X zd_Mo_note_37 ?_
          refine lv_iload_n hx hb zd_Mo_note_40 rfl (lv_at hl 3 rfl) ?_
          refine lv_dup2_11 hx hb zd_Mo_note_41 rfl rfl ?_
          obtain ⟨hin, hf⟩ := zz_ck_some hf
          refine za_Mo_often hx hb X hin zd_Mo_note_42 ?_
          refine lv_iconst (v := 1) hx hb zd_Mo_note_43 (by decide) ?_
          refine lv_iadd hx hb zd_Mo_note_44 ?_
          obtain ⟨hin, hf⟩ := zz_ck_some hf
          refine zs_Mo_often hx hb X hin zd_Mo_note_45 (fun H locs X => ?_)
          exact zr_vret hx hb hr hlocks X (Option.some.inj hf) zd_Mo_note_46
        · rw [if_neg g1] at hf
          refine lv_goto (tgt := 47) hx hb zd_Mo_note_33 (by decide) ?_
          refine lv_iinc (v := (x3 + (1 : Int32))) (lv' := [(3, .int (x3 + (1 : Int32))), (0, .ref (q 0)), (1, .int x1), (2, .int x2)]) hx hb zd_Mo_note_47 hl (k := 3) rfl rfl (by decide) rfl (fun ls hl => ?_)
          refine lv_goto (tgt := 2) hx hb zd_Mo_note_50 (by decide) ?_
          exact ih σ x1 x2 (x3 + (1 : Int32)) _ _ _ X (lv_sub hl [1, 2, 3, 0] rfl) hf

set_option maxRecDepth 100000 in
set_option maxHeartbeats 4000000 in
theorem zk_Mo_note (l : Launch) (D : va_G) (q : Nat → Nat) (cI cZ : ClassId) {σ : St} {x1 x2 : Int32} {out : St} (hf : zf_Mo_note σ x1 x2 = some out) : zV l D vwCl (zz_tys cI cZ) (wM q cI cZ) zy_Mo_note (.code zy_Mo_note zc_Mo_note 4 none :: zz_WS) zm_Mo_note [.ref (q 0), .int x1, .int x2] σ out := by
  refine zV_of (by decide +kernel) (Nat.le_of_ble_eq_true rfl) (fun p e s m below meth c A ls hx hb hml hown hts hr hlocks X hl => ?_)
  have hl : lv_has ls 4 [(0, .ref (q 0)), (1, .int x1), (2, .int x2)] := hl
  unfold zf_Mo_note at hf
  refine lv_iconst (v := 0) hx hb zd_Mo_note_0 (by decide) ?_
  refine lv_istore_n (lv' := [(3, .int (0 : Int32)), (0, .ref (q 0)), (1, .int x1), (2, .int x2)]) hx hb zd_Mo_note_1 rfl hl (by decide) rfl (fun ls hl => ?_)
  refine zw_Mo_note_L2 hx hb hml hown hts hr hlocks out _ (fun s4 s4_1 s4_2 H locs ls X hl hf => ?_) 300 σ x1 x2 (0 : Int32) _ _ _ X (lv_sub hl [1, 2, 3, 0] rfl) hf
  refine lv_aload_n hx hb zd_Mo_note_53 rfl (lv_at hl 0 rfl) ?_
  refine zg_Mo_findings hx hb hts hown X zd_Mo_note_54 ?_
  refine lv_bipush (v := 24) hx hb zd_Mo_note_57 (by decide) ?_
  refine lv_icmp_ne (tgt := 63) hx hb zd_Mo_note_59 (by decide) (fun g5 => ?_) (fun g5 => ?_)
  · rw [if_neg g5] at hf
    refine lv_aload_n hx hb zd_Mo_note_63 rfl (lv_at hl 0 rfl) ?_
    refine zg_Mo_kind hx hb hts hown X zd_Mo_note_64 ?_
    refine lv_aload_n hx hb zd_Mo_note_67 rfl (lv_at hl 0 rfl) ?_
    refine zg_Mo_findings hx hb hts hown X zd_Mo_note_68 ?_
    refine lv_iload_n hx hb zd_Mo_note_71 rfl (lv_at hl 1 rfl) ?_
    obtain ⟨hin, hf⟩ := zz_ck_some hf
    refine zs_Mo_kind hx hb X hin zd_Mo_note_72 (fun H locs X => ?_)
    refine lv_aload_n hx hb zd_Mo_note_73 rfl (lv_at hl 0 rfl) ?_
    refine zg_Mo_at hx hb hts hown X zd_Mo_note_74 ?_
    refine lv_aload_n hx hb zd_Mo_note_77 rfl (lv_at hl 0 rfl) ?_
    refine zg_Mo_findings hx hb hts hown X zd_Mo_note_78 ?_
    refine lv_aload_n hx hb zd_Mo_note_81 rfl (lv_at hl 0 rfl) ?_
    refine zg_Mo_place hx hb hts hown X zd_Mo_note_82 ?_
    obtain ⟨hin, hf⟩ := zz_ck_some hf
    refine zs_Mo_at hx hb X hin zd_Mo_note_85 (fun H locs X => ?_)
    refine lv_aload_n hx hb zd_Mo_note_86 rfl (lv_at hl 0 rfl) ?_
    refine zg_Mo_where hx hb hts hown X zd_Mo_note_87 ?_
    refine lv_aload_n hx hb zd_Mo_note_90 rfl (lv_at hl 0 rfl) ?_
    refine zg_Mo_findings hx hb hts hown X zd_Mo_note_91 ?_
    refine lv_iload_n hx hb zd_Mo_note_94 rfl (lv_at hl 2 rfl) ?_
    obtain ⟨hin, hf⟩ := zz_ck_some hf
    refine zs_Mo_where hx hb X hin zd_Mo_note_95 (fun H locs X => ?_)
    refine lv_aload_n hx hb zd_Mo_note_96 rfl (lv_at hl 0 rfl) ?_
    refine zg_Mo_often hx hb hts hown X zd_Mo_note_97 ?_
    refine lv_aload_n hx hb zd_Mo_note_100 rfl (lv_at hl 0 rfl) ?_
    refine zg_Mo_findings hx hb hts hown X zd_Mo_note_101 ?_
    refine lv_iconst (v := 1) hx hb zd_Mo_note_104 (by decide) ?_
    obtain ⟨hin, hf⟩ := zz_ck_some hf
    refine zs_Mo_often hx hb X hin zd_Mo_note_105 (fun H locs X => ?_)
    refine lv_aload_n hx hb zd_Mo_note_106 rfl (lv_at hl 0 rfl) ?_
    refine lv_dup hx hb zd_Mo_note_107 rfl ?_
    refine zg_Mo_findings hx hb hts hown X zd_Mo_note_108 ?_
    refine lv_iconst (v := 1) hx hb zd_Mo_note_111 (by decide) ?_
    refine lv_iadd hx hb zd_Mo_note_112 ?_
    refine zp_Mo_findings hx hb hts hown X zd_Mo_note_113 (fun H locs X => ?_)
    exact zr_vret hx hb hr hlocks X (Option.some.inj hf) zd_Mo_note_116
  · rw [if_pos g5] at hf
    exact zr_vret hx hb hr hlocks X (Option.some.inj hf) zd_Mo_note_62

set_option maxRecDepth 100000 in
set_option maxHeartbeats 4000000 in
theorem zw_Mo_lowest_L4 {p : Program} {l : Launch} {e : Env} {s : State} {m : MethodId} {args : Array Value} {below : List Frame} {meth : Method} {c : Code} {D : va_G} {q : Nat → Nat} {cI cZ : ClassId} {A : Nat → Prop} (hx : p.tables.exec = Jvm.exec) (hb : c.code = zc_Mo_lowest) (hml : c.maxLocals = 3) (hown : s.vm.findClass zR_Mo = some m.cls) (hts : ∀ w ∈ zz_WS, w.before args s = true) (hr : meth.sig.returnType = (some .int)) (hlocks : meth.locks = false) (out : Int32) (σ : St) (kx : Int32 → Option Int32) (hkx : ∀ (x1 : Int32) (H : Heap) (locs : List Loc) (ls : Array Slot), zz_X D vwCl (zz_tys cI cZ) A s H locs ((wM q cI cZ) σ) → lv_has ls 3 [(1, .int x1)] → kx x1 = some out → W p l e zm_Mo_lowest s m args below meth c H locs 0 0 (MQ below (zq_I D vwCl (zz_tys cI cZ) (wM q cI cZ) A (out, σ)) args s 0 0 A) (F0 m 29 ls [])) : ∀ (n : Nat) (x0 x1 x2 : Int32) (H : Heap) (locs : List Loc) (ls : Array Slot), zz_X D vwCl (zz_tys cI cZ) A s H locs ((wM q cI cZ) σ) → lv_has ls 3 [(0, .int x0), (1, .int x1), (2, .int x2)] → zf_Mo_lowest_L4 kx n x0 x1 x2 = some out → W p l e zm_Mo_lowest s m args below meth c H locs 0 0 (MQ below (zq_I D vwCl (zz_tys cI cZ) (wM q cI cZ) A (out, σ)) args s 0 0 A) (F0 m 4 ls []) := by
  intro n
  induction n with
  | zero =>
    intro x0 x1 x2 H locs ls X hl hf
    exact absurd hf (by simp [zf_Mo_lowest_L4])
  | succ n ih =>
    intro x0 x1 x2 H locs ls X hl hf
    rw [zf_Mo_lowest_L4] at hf
    refine lv_iload_n hx hb zd_Mo_lowest_4 rfl (lv_at hl 2 rfl) ?_
    refine lv_iconst (v := 4) hx hb zd_Mo_lowest_5 (by decide) ?_
    refine lv_icmp_ge (tgt := 29) hx hb zd_Mo_lowest_6 (by decide) (fun g2 => ?_) (fun g2 => ?_)
    · rw [if_pos g2] at hf
      exact hkx x1 _ _ _ X (lv_sub hl [1] rfl) hf
    · rw [if_neg g2] at hf
      refine lv_iload_n hx hb zd_Mo_lowest_9 rfl (lv_at hl 0 rfl) ?_
      refine lv_iload_n hx hb zd_Mo_lowest_10 rfl (lv_at hl 2 rfl) ?_
      refine lv_ishr hx hb zd_Mo_lowest_11 ?_
      refine lv_iconst (v := 1) hx hb zd_Mo_lowest_12 (by decide) ?_
      refine lv_iand hx hb zd_Mo_lowest_13 ?_
      refine lv_if_eq (tgt := 29) hx hb zd_Mo_lowest_14 (by decide) (fun g1 => ?_) (fun g1 => ?_)
      · rw [if_pos g1] at hf
        exact hkx x1 _ _ _ X (lv_sub hl [1] rfl) hf
      · rw [if_neg g1] at hf
        refine lv_iload_n hx hb zd_Mo_lowest_17 rfl (lv_at hl 1 rfl) ?_
        refine lv_iconst (v := 1) hx hb zd_Mo_lowest_18 (by decide) ?_
        refine lv_iload_n hx hb zd_Mo_lowest_19 rfl (lv_at hl 2 rfl) ?_
        refine lv_ishl hx hb zd_Mo_lowest_20 ?_
        refine lv_ior hx hb zd_Mo_lowest_21 ?_
        refine lv_istore_n (lv' := [(1, .int (x1 ||| ((1 : Int32) <<< (x2 &&& 31)))), (0, .int x0), (2, .int x2)]) hx hb zd_Mo_lowest_22 rfl hl (by decide) rfl (fun ls hl => ?_)
        refine lv_iinc (v := (x2 + (1 : Int32))) (lv' := [(2, .int (x2 + (1 : Int32))), (1, .int (x1 ||| ((1 : Int32) <<< (x2 &&& 31)))), (0, .int x0)]) hx hb zd_Mo_lowest_23 hl (k := 2) rfl rfl (by decide) rfl (fun ls hl => ?_)
        refine lv_goto (tgt := 4) hx hb zd_Mo_lowest_26 (by decide) ?_
        exact ih x0 (x1 ||| ((1 : Int32) <<< (x2 &&& 31))) (x2 + (1 : Int32)) _ _ _ X (lv_sub hl [2, 1, 0] rfl) hf

set_option maxRecDepth 100000 in
set_option maxHeartbeats 4000000 in
theorem zk_Mo_lowest (l : Launch) (D : va_G) (q : Nat → Nat) (cI cZ : ClassId) {σ : St} {x0 : Int32} {out : Int32} (hf : zf_Mo_lowest x0 = some out) : zI l D vwCl (zz_tys cI cZ) (wM q cI cZ) zy_Mo_lowest (.code zy_Mo_lowest zc_Mo_lowest 3 (some .int) :: zz_WS) zm_Mo_lowest [.int x0] σ (out, σ) := by
  refine zI_of (by decide +kernel) (Nat.le_of_ble_eq_true rfl) (fun p e s m below meth c A ls hx hb hml hown hts hr hlocks X hl => ?_)
  have hl : lv_has ls 3 [(0, .int x0)] := hl
  unfold zf_Mo_lowest at hf
  refine lv_iconst (v := 0) hx hb zd_Mo_lowest_0 (by decide) ?_
  refine lv_istore_n (lv' := [(1, .int (0 : Int32)), (0, .int x0)]) hx hb zd_Mo_lowest_1 rfl hl (by decide) rfl (fun ls hl => ?_)
  refine lv_iconst (v := 0) hx hb zd_Mo_lowest_2 (by decide) ?_
  refine lv_istore_n (lv' := [(2, .int (0 : Int32)), (1, .int (0 : Int32)), (0, .int x0)]) hx hb zd_Mo_lowest_3 rfl hl (by decide) rfl (fun ls hl => ?_)
  refine zw_Mo_lowest_L4 hx hb hml hown hts hr hlocks out σ _ (fun y_1 H locs ls X hl hf => ?_) 300 x0 (0 : Int32) (0 : Int32) _ _ _ X (lv_sub hl [2, 1, 0] rfl) hf
  refine lv_iload_n hx hb zd_Mo_lowest_29 rfl (lv_at hl 0 rfl) ?_
  exact zr_iretP hx hb hr hlocks X (Option.some.inj hf) zd_Mo_lowest_30

set_option maxRecDepth 100000 in
set_option maxHeartbeats 4000000 in
theorem zw_Mo_bytes_L4 {p : Program} {l : Launch} {e : Env} {s : State} {m : MethodId} {args : Array Value} {below : List Frame} {meth : Method} {c : Code} {D : va_G} {q : Nat → Nat} {cI cZ : ClassId} {A : Nat → Prop} (hx : p.tables.exec = Jvm.exec) (hb : c.code = zc_Mo_bytes) (hml : c.maxLocals = 4) (hown : s.vm.findClass zR_Mo = some m.cls) (hts : ∀ w ∈ zz_WS, w.before args s = true) (hr : meth.sig.returnType = (some .int)) (hlocks : meth.locks = false) (out : Int32) (σ : St) (kx : Int32 → Option Int32) (hkx : ∀ (x2 : Int32) (H : Heap) (locs : List Loc) (ls : Array Slot), zz_X D vwCl (zz_tys cI cZ) A s H locs ((wM q cI cZ) σ) → lv_has ls 4 [(2, .int x2)] → kx x2 = some out → W p l e zm_Mo_bytes s m args below meth c H locs 0 0 (MQ below (zq_I D vwCl (zz_tys cI cZ) (wM q cI cZ) A (out, σ)) args s 0 0 A) (F0 m 35 ls [])) : ∀ (n : Nat) (x0 x1 x2 x3 : Int32) (H : Heap) (locs : List Loc) (ls : Array Slot), zz_X D vwCl (zz_tys cI cZ) A s H locs ((wM q cI cZ) σ) → lv_has ls 4 [(0, .int x0), (1, .int x1), (2, .int x2), (3, .int x3)] → zf_Mo_bytes_L4 kx n x0 x1 x2 x3 = some out → W p l e zm_Mo_bytes s m args below meth c H locs 0 0 (MQ below (zq_I D vwCl (zz_tys cI cZ) (wM q cI cZ) A (out, σ)) args s 0 0 A) (F0 m 4 ls []) := by
  intro n
  induction n with
  | zero =>
    intro x0 x1 x2 x3 H locs ls X hl hf
    exact absurd hf (by simp [zf_Mo_bytes_L4])
  | succ n ih =>
    intro x0 x1 x2 x3 H locs ls X hl hf
    rw [zf_Mo_bytes_L4] at hf
    refine lv_iload_n hx hb zd_Mo_bytes_4 rfl (lv_at hl 3 rfl) ?_
    refine lv_iconst (v := 4) hx hb zd_Mo_bytes_5 (by decide) ?_
    refine lv_icmp_ge (tgt := 35) hx hb zd_Mo_bytes_6 (by decide) (fun g2 => ?_) (fun g2 => ?_)
    · rw [if_pos g2] at hf
      exact hkx x2 _ _ _ X (lv_sub hl [2] rfl) hf
    · rw [if_neg g2] at hf
      refine lv_iload_n hx hb zd_Mo_bytes_9 rfl (lv_at hl 0 rfl) ?_
      refine lv_bipush (v := 8) hx hb zd_Mo_bytes_10 (by decide) ?_
      refine lv_iload_n hx hb zd_Mo_bytes_12 rfl (lv_at hl 3 rfl) ?_
      refine lv_imul hx hb zd_Mo_bytes_13 ?_
      refine lv_ishr hx hb zd_Mo_bytes_14 ?_
      refine lv_sipush (v := 255) hx hb zd_Mo_bytes_15 (by decide) ?_
      refine lv_iand hx hb zd_Mo_bytes_18 ?_
      refine lv_iload_n hx hb zd_Mo_bytes_19 rfl (lv_at hl 1 rfl) ?_
      refine lv_icmp_ne (tgt := 29) hx hb zd_Mo_bytes_20 (by decide) (fun g1 => ?_) (fun g1 => ?_)
      · rw [if_neg g1] at hf
        refine lv_iinc (v := (x3 + (1 : Int32))) (lv' := [(3, .int (x3 + (1 : Int32))), (0, .int x0), (1, .int x1), (2, .int x2)]) hx hb zd_Mo_bytes_29 hl (k := 3) rfl rfl (by decide) rfl (fun ls hl => ?_)
        refine lv_goto (tgt := 4) hx hb zd_Mo_bytes_32 (by decide) ?_
        exact ih x0 x1 x2 (x3 + (1 : Int32)) _ _ _ X (lv_sub hl [1, 2, 3, 0] rfl) hf
      · rw [if_pos g1] at hf
        refine lv_iload_n hx hb zd_Mo_bytes_23 rfl (lv_at hl 2 rfl) ?_
        refine lv_iconst (v := 1) hx hb zd_Mo_bytes_24 (by decide) ?_
        refine lv_iload_n hx hb zd_Mo_bytes_25 rfl (lv_at hl 3 rfl) ?_
        refine lv_ishl hx hb zd_Mo_bytes_26 ?_
        refine lv_ior hx hb zd_Mo_bytes_27 ?_
        refine lv_istore_n (lv' := [(2, .int (x2 ||| ((1 : Int32) <<< (x3 &&& 31)))), (0, .int x0), (1, .int x1), (3, .int x3)]) hx hb zd_Mo_bytes_28 rfl hl (by decide) rfl (fun ls hl => ?_)
        refine lv_iinc (v := (x3 + (1 : Int32))) (lv' := [(3, .int (x3 + (1 : Int32))), (2, .int (x2 ||| ((1 : Int32) <<< (x3 &&& 31)))), (0, .int x0), (1, .int x1)]) hx hb zd_Mo_bytes_29 hl (k := 3) rfl rfl (by decide) rfl (fun ls hl => ?_)
        refine lv_goto (tgt := 4) hx hb zd_Mo_bytes_32 (by decide) ?_
        exact ih x0 x1 (x2 ||| ((1 : Int32) <<< (x3 &&& 31))) (x3 + (1 : Int32)) _ _ _ X (lv_sub hl [2, 3, 1, 0] rfl) hf

set_option maxRecDepth 100000 in
set_option maxHeartbeats 4000000 in
theorem zk_Mo_bytes (l : Launch) (D : va_G) (q : Nat → Nat) (cI cZ : ClassId) {σ : St} {x0 x1 : Int32} {out : Int32} (hf : zf_Mo_bytes x0 x1 = some out) : zI l D vwCl (zz_tys cI cZ) (wM q cI cZ) zy_Mo_bytes (.code zy_Mo_bytes zc_Mo_bytes 4 (some .int) :: zz_WS) zm_Mo_bytes [.int x0, .int x1] σ (out, σ) := by
  refine zI_of (by decide +kernel) (Nat.le_of_ble_eq_true rfl) (fun p e s m below meth c A ls hx hb hml hown hts hr hlocks X hl => ?_)
  have hl : lv_has ls 4 [(0, .int x0), (1, .int x1)] := hl
  unfold zf_Mo_bytes at hf
  refine lv_iconst (v := 0) hx hb zd_Mo_bytes_0 (by decide) ?_
  refine lv_istore_n (lv' := [(2, .int (0 : Int32)), (0, .int x0), (1, .int x1)]) hx hb zd_Mo_bytes_1 rfl hl (by decide) rfl (fun ls hl => ?_)
  refine lv_iconst (v := 0) hx hb zd_Mo_bytes_2 (by decide) ?_
  refine lv_istore_n (lv' := [(3, .int (0 : Int32)), (2, .int (0 : Int32)), (0, .int x0), (1, .int x1)]) hx hb zd_Mo_bytes_3 rfl hl (by decide) rfl (fun ls hl => ?_)
  refine zw_Mo_bytes_L4 hx hb hml hown hts hr hlocks out σ _ (fun y_2 H locs ls X hl hf => ?_) 300 x0 x1 (0 : Int32) (0 : Int32) _ _ _ X (lv_sub hl [2, 3, 1, 0] rfl) hf
  refine lv_iload_n hx hb zd_Mo_bytes_35 rfl (lv_at hl 0 rfl) ?_
  exact zr_iretP hx hb hr hlocks X (Option.some.inj hf) zd_Mo_bytes_36

set_option maxRecDepth 100000 in
set_option maxHeartbeats 4000000 in
theorem zw_Mo_compute_b267 {p : Program} {l : Launch} {e : Env} {s : State} {m : MethodId} {args : Array Value} {below : List Frame} {meth : Method} {c : Code} {D : va_G} {q : Nat → Nat} {cI cZ : ClassId} {A : Nat → Prop} (hx : p.tables.exec = Jvm.exec) (hb : c.code = zc_Mo_compute) (hml : c.maxLocals = 8) (hown : s.vm.findClass zR_Mo = some m.cls) (hts : ∀ w ∈ zz_WS, w.before args s = true) (hr : meth.sig.returnType = none) (hlocks : meth.locks = false) (out : St) : ∀ (σ : St) (x1 x2 x3 x4 x7 : Int32) (H : Heap) (locs : List Loc) (ls : Array Slot), zz_X D vwCl (zz_tys cI cZ) A s H locs ((wM q cI cZ) σ) → lv_has ls 8 [(0, .ref (q 0)), (1, .int x1), (2, .int x2), (3, .int x3), (4, .int x4), (7, .int x7)] → zf_Mo_compute_b267 σ x1 x2 x3 x4 x7 = some out → W p l e zm_Mo_compute s m args below meth c H locs 0 0 (MQ below (zq_V D vwCl (zz_tys cI cZ) (wM q cI cZ) A out) args s 0 0 A) (F0 m 267 ls []) := by
  intro σ x1 x2 x3 x4 x7 H locs ls X hl hf
  rw [zf_Mo_compute_b267] at hf
  refine lv_iload_n hx hb zd_Mo_compute_267 rfl (lv_at hl 1 rfl) ?_
  refine lv_bipush (v := 8) hx hb zd_Mo_compute_268 (by decide) ?_
  refine lv_icmp_ne (tgt := 289) hx hb zd_Mo_compute_270 (by decide) (fun g3 => ?_) (fun g3 => ?_)
  · rw [if_neg g3] at hf
    exact zr_vret hx hb hr hlocks X (Option.some.inj hf) zd_Mo_compute_289
  · rw [if_pos g3] at hf
    refine lv_aload_n hx hb zd_Mo_compute_273 rfl (lv_at hl 0 rfl) ?_
    refine lv_aload_n hx hb zd_Mo_compute_274 rfl (lv_at hl 0 rfl) ?_
    refine zg_Mo_d hx hb hts hown X zd_Mo_compute_275 ?_
    refine lv_iload_n hx hb zd_Mo_compute_278 rfl (lv_at hl 2 rfl) ?_
    obtain ⟨hin, hf⟩ := zz_ck_some hf
    refine za_Mo_d hx hb X hin zd_Mo_compute_279 ?_
    refine lv_iload_n hx hb zd_Mo_compute_280 rfl (lv_at hl 3 rfl) ?_
    refine lv_iload hx hb zd_Mo_compute_281 (lv_at hl 4 rfl) ?_
    refine lv_ixor hx hb zd_Mo_compute_283 ?_
    refine lv_iload hx hb zd_Mo_compute_284 (lv_at hl 5 rfl) ?_
    obtain ⟨u1, h2, hf⟩ := Option.bind_eq_some_iff.mp hf
    refine zr_cvV (As := [.int (σ 1 x2.toNatClampNeg), .int (x3 ^^^ x4), .int x7]) (rest := []) (q0 := 0) (ci := 9) hx hb hml hown hts hl.1 X (zk_Mo_put l D q cI cZ h2) zkw_Mo_put zl_Mo_98 rfl rfl (Nat.le_of_ble_eq_true rfl) rfl rfl ⟨rfl, rfl⟩ ⟨Nat.le_of_ble_eq_true rfl, Nat.le_of_ble_eq_true rfl⟩ zd_Mo_compute_286 (fun H locs X => ?_)
    exact zr_vret hx hb hr hlocks X (Option.some.inj hf) zd_Mo_compute_289

set_option maxRecDepth 100000 in
set_option maxHeartbeats 4000000 in
theorem zw_Mo_compute_b222 {p : Program} {l : Launch} {e : Env} {s : State} {m : MethodId} {args : Array Value} {below : List Frame} {meth : Method} {c : Code} {D : va_G} {q : Nat → Nat} {cI cZ : ClassId} {A : Nat → Prop} (hx : p.tables.exec = Jvm.exec) (hb : c.code = zc_Mo_compute) (hml : c.maxLocals = 8) (hown : s.vm.findClass zR_Mo = some m.cls) (hts : ∀ w ∈ zz_WS, w.before args s = true) (hr : meth.sig.returnType = none) (hlocks : meth.locks = false) (out : St) : ∀ (σ : St) (x1 x2 x3 x4 x5 x6 x7 : Int32) (H : Heap) (locs : List Loc) (ls : Array Slot), zz_X D vwCl (zz_tys cI cZ) A s H locs ((wM q cI cZ) σ) → lv_has ls 8 [(0, .ref (q 0)), (1, .int x1), (2, .int x2), (3, .int x3), (4, .int x4), (5, .int x5), (6, .int x6), (7, .int x7)] → zf_Mo_compute_b222 σ x1 x2 x3 x4 x5 x6 x7 = some out → W p l e zm_Mo_compute s m args below meth c H locs 0 0 (MQ below (zq_V D vwCl (zz_tys cI cZ) (wM q cI cZ) A out) args s 0 0 A) (F0 m 222 ls []) := by
  intro σ x1 x2 x3 x4 x5 x6 x7 H locs ls X hl hf
  rw [zf_Mo_compute_b222] at hf
  refine lv_iload_n hx hb zd_Mo_compute_222 rfl (lv_at hl 1 rfl) ?_
  refine lv_bipush (v := 7) hx hb zd_Mo_compute_223 (by decide) ?_
  refine lv_icmp_ne (tgt := 267) hx hb zd_Mo_compute_225 (by decide) (fun g10 => ?_) (fun g10 => ?_)
  · rw [if_neg g10] at hf
    exact zw_Mo_compute_b267 hx hb hml hown hts hr hlocks out σ x1 x2 x3 x4 x7 _ _ _ X (lv_sub hl [0, 1, 2, 3, 4, 7] rfl) hf
  · rw [if_pos g10] at hf
    refine lv_aload_n hx hb zd_Mo_compute_228 rfl (lv_at hl 0 rfl) ?_
    refine lv_aload_n hx hb zd_Mo_compute_229 rfl (lv_at hl 0 rfl) ?_
    refine zg_Mo_d hx hb hts hown X zd_Mo_compute_230 ?_
    refine lv_iload_n hx hb zd_Mo_compute_233 rfl (lv_at hl 2 rfl) ?_
    obtain ⟨hin, hf⟩ := zz_ck_some hf
    refine za_Mo_d hx hb X hin zd_Mo_compute_234 ?_
    refine lv_iload_n hx hb zd_Mo_compute_235 rfl (lv_at hl 3 rfl) ?_
    refine lv_iload hx hb zd_Mo_compute_236 (lv_at hl 4 rfl) ?_
    refine lv_ior hx hb zd_Mo_compute_238 ?_
    refine lv_iload hx hb zd_Mo_compute_239 (lv_at hl 7 rfl) ?_
    refine lv_iload hx hb zd_Mo_compute_241 (lv_at hl 5 rfl) ?_
    refine lv_iload_n hx hb zd_Mo_compute_243 rfl (lv_at hl 3 rfl) ?_
    refine lv_sipush (v := 255) hx hb zd_Mo_compute_244 (by decide) ?_
    obtain ⟨r4, h9, hf⟩ := Option.bind_eq_some_iff.mp hf
    refine zr_csP (As := [.int x3, .int (255 : Int32)]) (rest := [.int x5, .int x7, .int (x3 ||| x4), .int (σ 1 x2.toNatClampNeg), .ref (q 0)]) hx hb hml hown hts hl.1 X (zk_Mo_bytes l D q cI cZ h9) zkw_Mo_bytes zl_Mo_108 rfl rfl (Nat.le_of_ble_eq_true rfl) ⟨rfl, rfl⟩ ⟨Nat.le_of_ble_eq_true rfl, Nat.le_of_ble_eq_true rfl⟩ zd_Mo_compute_247 (fun H locs X => ?_)
    refine lv_iand hx hb zd_Mo_compute_250 ?_
    refine lv_ior hx hb zd_Mo_compute_251 ?_
    refine lv_iload hx hb zd_Mo_compute_252 (lv_at hl 6 rfl) ?_
    refine lv_iload hx hb zd_Mo_compute_254 (lv_at hl 4 rfl) ?_
    refine lv_sipush (v := 255) hx hb zd_Mo_compute_256 (by decide) ?_
    obtain ⟨r5, h8, hf⟩ := Option.bind_eq_some_iff.mp hf
    refine zr_csP (As := [.int x4, .int (255 : Int32)]) (rest := [.int x6, .int (x7 ||| (x5 &&& r4)), .int (x3 ||| x4), .int (σ 1 x2.toNatClampNeg), .ref (q 0)]) hx hb hml hown hts hl.1 X (zk_Mo_bytes l D q cI cZ h8) zkw_Mo_bytes zl_Mo_108 rfl rfl (Nat.le_of_ble_eq_true rfl) ⟨rfl, rfl⟩ ⟨Nat.le_of_ble_eq_true rfl, Nat.le_of_ble_eq_true rfl⟩ zd_Mo_compute_259 (fun H locs X => ?_)
    refine lv_iand hx hb zd_Mo_compute_262 ?_
    refine lv_ior hx hb zd_Mo_compute_263 ?_
    obtain ⟨u6, h7, hf⟩ := Option.bind_eq_some_iff.mp hf
    refine zr_cvV (As := [.int (σ 1 x2.toNatClampNeg), .int (x3 ||| x4), .int ((x7 ||| (x5 &&& r4)) ||| (x6 &&& r5))]) (rest := []) (q0 := 0) (ci := 9) hx hb hml hown hts hl.1 X (zk_Mo_put l D q cI cZ h7) zkw_Mo_put zl_Mo_98 rfl rfl (Nat.le_of_ble_eq_true rfl) rfl rfl ⟨rfl, rfl⟩ ⟨Nat.le_of_ble_eq_true rfl, Nat.le_of_ble_eq_true rfl⟩ zd_Mo_compute_264 (fun H locs X => ?_)
    exact zw_Mo_compute_b267 hx hb hml hown hts hr hlocks out u6 x1 x2 x3 x4 x7 _ _ _ X (lv_sub hl [0, 1, 2, 3, 4, 7] rfl) hf

set_option maxRecDepth 100000 in
set_option maxHeartbeats 4000000 in
theorem zw_Mo_compute_b181 {p : Program} {l : Launch} {e : Env} {s : State} {m : MethodId} {args : Array Value} {below : List Frame} {meth : Method} {c : Code} {D : va_G} {q : Nat → Nat} {cI cZ : ClassId} {A : Nat → Prop} (hx : p.tables.exec = Jvm.exec) (hb : c.code = zc_Mo_compute) (hml : c.maxLocals = 8) (hown : s.vm.findClass zR_Mo = some m.cls) (hts : ∀ w ∈ zz_WS, w.before args s = true) (hr : meth.sig.returnType = none) (hlocks : meth.locks = false) (out : St) : ∀ (σ : St) (x1 x2 x3 x4 x5 x6 x7 : Int32) (H : Heap) (locs : List Loc) (ls : Array Slot), zz_X D vwCl (zz_tys cI cZ) A s H locs ((wM q cI cZ) σ) → lv_has ls 8 [(0, .ref (q 0)), (1, .int x1), (2, .int x2), (3, .int x3), (4, .int x4), (5, .int x5), (6, .int x6), (7, .int x7)] → zf_Mo_compute_b181 σ x1 x2 x3 x4 x5 x6 x7 = some out → W p l e zm_Mo_compute s m args below meth c H locs 0 0 (MQ below (zq_V D vwCl (zz_tys cI cZ) (wM q cI cZ) A out) args s 0 0 A) (F0 m 181 ls []) := by
  intro σ x1 x2 x3 x4 x5 x6 x7 H locs ls X hl hf
  rw [zf_Mo_compute_b181] at hf
  refine lv_iload_n hx hb zd_Mo_compute_181 rfl (lv_at hl 1 rfl) ?_
  refine lv_bipush (v := 6) hx hb zd_Mo_compute_182 (by decide) ?_
  refine lv_icmp_ne (tgt := 222) hx hb zd_Mo_compute_184 (by decide) (fun g17 => ?_) (fun g17 => ?_)
  · rw [if_neg g17] at hf
    exact zw_Mo_compute_b222 hx hb hml hown hts hr hlocks out σ x1 x2 x3 x4 x5 x6 x7 _ _ _ X hl hf
  · rw [if_pos g17] at hf
    refine lv_aload_n hx hb zd_Mo_compute_187 rfl (lv_at hl 0 rfl) ?_
    refine lv_aload_n hx hb zd_Mo_compute_188 rfl (lv_at hl 0 rfl) ?_
    refine zg_Mo_d hx hb hts hown X zd_Mo_compute_189 ?_
    refine lv_iload_n hx hb zd_Mo_compute_192 rfl (lv_at hl 2 rfl) ?_
    obtain ⟨hin, hf⟩ := zz_ck_some hf
    refine za_Mo_d hx hb X hin zd_Mo_compute_193 ?_
    refine lv_iload_n hx hb zd_Mo_compute_194 rfl (lv_at hl 3 rfl) ?_
    refine lv_iload hx hb zd_Mo_compute_195 (lv_at hl 4 rfl) ?_
    refine lv_iand hx hb zd_Mo_compute_197 ?_
    refine lv_iload hx hb zd_Mo_compute_198 (lv_at hl 7 rfl) ?_
    refine lv_iload hx hb zd_Mo_compute_200 (lv_at hl 5 rfl) ?_
    refine lv_iload_n hx hb zd_Mo_compute_202 rfl (lv_at hl 3 rfl) ?_
    refine lv_iconst (v := 0) hx hb zd_Mo_compute_203 (by decide) ?_
    obtain ⟨r11, h16, hf⟩ := Option.bind_eq_some_iff.mp hf
    refine zr_csP (As := [.int x3, .int (0 : Int32)]) (rest := [.int x5, .int x7, .int (x3 &&& x4), .int (σ 1 x2.toNatClampNeg), .ref (q 0)]) hx hb hml hown hts hl.1 X (zk_Mo_bytes l D q cI cZ h16) zkw_Mo_bytes zl_Mo_108 rfl rfl (Nat.le_of_ble_eq_true rfl) ⟨rfl, rfl⟩ ⟨Nat.le_of_ble_eq_true rfl, Nat.le_of_ble_eq_true rfl⟩ zd_Mo_compute_204 (fun H locs X => ?_)
    refine lv_iand hx hb zd_Mo_compute_207 ?_
    refine lv_ior hx hb zd_Mo_compute_208 ?_
    refine lv_iload hx hb zd_Mo_compute_209 (lv_at hl 6 rfl) ?_
    refine lv_iload hx hb zd_Mo_compute_211 (lv_at hl 4 rfl) ?_
    refine lv_iconst (v := 0) hx hb zd_Mo_compute_213 (by decide) ?_
    obtain ⟨r12, h15, hf⟩ := Option.bind_eq_some_iff.mp hf
    refine zr_csP (As := [.int x4, .int (0 : Int32)]) (rest := [.int x6, .int (x7 ||| (x5 &&& r11)), .int (x3 &&& x4), .int (σ 1 x2.toNatClampNeg), .ref (q 0)]) hx hb hml hown hts hl.1 X (zk_Mo_bytes l D q cI cZ h15) zkw_Mo_bytes zl_Mo_108 rfl rfl (Nat.le_of_ble_eq_true rfl) ⟨rfl, rfl⟩ ⟨Nat.le_of_ble_eq_true rfl, Nat.le_of_ble_eq_true rfl⟩ zd_Mo_compute_214 (fun H locs X => ?_)
    refine lv_iand hx hb zd_Mo_compute_217 ?_
    refine lv_ior hx hb zd_Mo_compute_218 ?_
    obtain ⟨u13, h14, hf⟩ := Option.bind_eq_some_iff.mp hf
    refine zr_cvV (As := [.int (σ 1 x2.toNatClampNeg), .int (x3 &&& x4), .int ((x7 ||| (x5 &&& r11)) ||| (x6 &&& r12))]) (rest := []) (q0 := 0) (ci := 9) hx hb hml hown hts hl.1 X (zk_Mo_put l D q cI cZ h14) zkw_Mo_put zl_Mo_98 rfl rfl (Nat.le_of_ble_eq_true rfl) rfl rfl ⟨rfl, rfl⟩ ⟨Nat.le_of_ble_eq_true rfl, Nat.le_of_ble_eq_true rfl⟩ zd_Mo_compute_219 (fun H locs X => ?_)
    exact zw_Mo_compute_b222 hx hb hml hown hts hr hlocks out u13 x1 x2 x3 x4 x5 x6 x7 _ _ _ X hl hf

set_option maxRecDepth 100000 in
set_option maxHeartbeats 4000000 in
theorem zw_Mo_compute_b157 {p : Program} {l : Launch} {e : Env} {s : State} {m : MethodId} {args : Array Value} {below : List Frame} {meth : Method} {c : Code} {D : va_G} {q : Nat → Nat} {cI cZ : ClassId} {A : Nat → Prop} (hx : p.tables.exec = Jvm.exec) (hb : c.code = zc_Mo_compute) (hml : c.maxLocals = 8) (hown : s.vm.findClass zR_Mo = some m.cls) (hts : ∀ w ∈ zz_WS, w.before args s = true) (hr : meth.sig.returnType = none) (hlocks : meth.locks = false) (out : St) : ∀ (σ : St) (x1 x2 x3 x4 x5 x6 x7 : Int32) (H : Heap) (locs : List Loc) (ls : Array Slot), zz_X D vwCl (zz_tys cI cZ) A s H locs ((wM q cI cZ) σ) → lv_has ls 8 [(0, .ref (q 0)), (1, .int x1), (2, .int x2), (3, .int x3), (4, .int x4), (5, .int x5), (6, .int x6), (7, .int x7)] → zf_Mo_compute_b157 σ x1 x2 x3 x4 x5 x6 x7 = some out → W p l e zm_Mo_compute s m args below meth c H locs 0 0 (MQ below (zq_V D vwCl (zz_tys cI cZ) (wM q cI cZ) A out) args s 0 0 A) (F0 m 157 ls []) := by
  intro σ x1 x2 x3 x4 x5 x6 x7 H locs ls X hl hf
  rw [zf_Mo_compute_b157] at hf
  refine lv_iload_n hx hb zd_Mo_compute_157 rfl (lv_at hl 1 rfl) ?_
  refine lv_iconst (v := 5) hx hb zd_Mo_compute_158 (by decide) ?_
  refine lv_icmp_ne (tgt := 181) hx hb zd_Mo_compute_159 (by decide) (fun g22 => ?_) (fun g22 => ?_)
  · rw [if_neg g22] at hf
    exact zw_Mo_compute_b181 hx hb hml hown hts hr hlocks out σ x1 x2 x3 x4 x5 x6 x7 _ _ _ X hl hf
  · rw [if_pos g22] at hf
    refine lv_aload_n hx hb zd_Mo_compute_162 rfl (lv_at hl 0 rfl) ?_
    refine lv_aload_n hx hb zd_Mo_compute_163 rfl (lv_at hl 0 rfl) ?_
    refine zg_Mo_d hx hb hts hown X zd_Mo_compute_164 ?_
    refine lv_iload_n hx hb zd_Mo_compute_167 rfl (lv_at hl 2 rfl) ?_
    obtain ⟨hin, hf⟩ := zz_ck_some hf
    refine za_Mo_d hx hb X hin zd_Mo_compute_168 ?_
    refine lv_iload_n hx hb zd_Mo_compute_169 rfl (lv_at hl 3 rfl) ?_
    refine lv_iload hx hb zd_Mo_compute_170 (lv_at hl 4 rfl) ?_
    refine lv_imul hx hb zd_Mo_compute_172 ?_
    refine lv_iload hx hb zd_Mo_compute_173 (lv_at hl 7 rfl) ?_
    obtain ⟨r18, h21, hf⟩ := Option.bind_eq_some_iff.mp hf
    refine zr_csP (As := [.int x7]) (rest := [.int (x3 * x4), .int (σ 1 x2.toNatClampNeg), .ref (q 0)]) hx hb hml hown hts hl.1 X (zk_Mo_lowest l D q cI cZ h21) zkw_Mo_lowest zl_Mo_105 rfl rfl (Nat.le_of_ble_eq_true rfl) ⟨rfl, rfl⟩ ⟨Nat.le_of_ble_eq_true rfl, Nat.le_of_ble_eq_true rfl⟩ zd_Mo_compute_175 (fun H locs X => ?_)
    obtain ⟨u19, h20, hf⟩ := Option.bind_eq_some_iff.mp hf
    refine zr_cvV (As := [.int (σ 1 x2.toNatClampNeg), .int (x3 * x4), .int r18]) (rest := []) (q0 := 0) (ci := 9) hx hb hml hown hts hl.1 X (zk_Mo_put l D q cI cZ h20) zkw_Mo_put zl_Mo_98 rfl rfl (Nat.le_of_ble_eq_true rfl) rfl rfl ⟨rfl, rfl⟩ ⟨Nat.le_of_ble_eq_true rfl, Nat.le_of_ble_eq_true rfl⟩ zd_Mo_compute_178 (fun H locs X => ?_)
    exact zw_Mo_compute_b181 hx hb hml hown hts hr hlocks out u19 x1 x2 x3 x4 x5 x6 x7 _ _ _ X hl hf

set_option maxRecDepth 100000 in
set_option maxHeartbeats 4000000 in
theorem zw_Mo_compute_b133 {p : Program} {l : Launch} {e : Env} {s : State} {m : MethodId} {args : Array Value} {below : List Frame} {meth : Method} {c : Code} {D : va_G} {q : Nat → Nat} {cI cZ : ClassId} {A : Nat → Prop} (hx : p.tables.exec = Jvm.exec) (hb : c.code = zc_Mo_compute) (hml : c.maxLocals = 8) (hown : s.vm.findClass zR_Mo = some m.cls) (hts : ∀ w ∈ zz_WS, w.before args s = true) (hr : meth.sig.returnType = none) (hlocks : meth.locks = false) (out : St) : ∀ (σ : St) (x1 x2 x3 x4 x5 x6 x7 : Int32) (H : Heap) (locs : List Loc) (ls : Array Slot), zz_X D vwCl (zz_tys cI cZ) A s H locs ((wM q cI cZ) σ) → lv_has ls 8 [(0, .ref (q 0)), (1, .int x1), (2, .int x2), (3, .int x3), (4, .int x4), (5, .int x5), (6, .int x6), (7, .int x7)] → zf_Mo_compute_b133 σ x1 x2 x3 x4 x5 x6 x7 = some out → W p l e zm_Mo_compute s m args below meth c H locs 0 0 (MQ below (zq_V D vwCl (zz_tys cI cZ) (wM q cI cZ) A out) args s 0 0 A) (F0 m 133 ls []) := by
  intro σ x1 x2 x3 x4 x5 x6 x7 H locs ls X hl hf
  rw [zf_Mo_compute_b133] at hf
  refine lv_iload_n hx hb zd_Mo_compute_133 rfl (lv_at hl 1 rfl) ?_
  refine lv_iconst (v := 4) hx hb zd_Mo_compute_134 (by decide) ?_
  refine lv_icmp_ne (tgt := 157) hx hb zd_Mo_compute_135 (by decide) (fun g27 => ?_) (fun g27 => ?_)
  · rw [if_neg g27] at hf
    exact zw_Mo_compute_b157 hx hb hml hown hts hr hlocks out σ x1 x2 x3 x4 x5 x6 x7 _ _ _ X hl hf
  · rw [if_pos g27] at hf
    refine lv_aload_n hx hb zd_Mo_compute_138 rfl (lv_at hl 0 rfl) ?_
    refine lv_aload_n hx hb zd_Mo_compute_139 rfl (lv_at hl 0 rfl) ?_
    refine zg_Mo_d hx hb hts hown X zd_Mo_compute_140 ?_
    refine lv_iload_n hx hb zd_Mo_compute_143 rfl (lv_at hl 2 rfl) ?_
    obtain ⟨hin, hf⟩ := zz_ck_some hf
    refine za_Mo_d hx hb X hin zd_Mo_compute_144 ?_
    refine lv_iload_n hx hb zd_Mo_compute_145 rfl (lv_at hl 3 rfl) ?_
    refine lv_iload hx hb zd_Mo_compute_146 (lv_at hl 4 rfl) ?_
    refine lv_isub hx hb zd_Mo_compute_148 ?_
    refine lv_iload hx hb zd_Mo_compute_149 (lv_at hl 7 rfl) ?_
    obtain ⟨r23, h26, hf⟩ := Option.bind_eq_some_iff.mp hf
    refine zr_csP (As := [.int x7]) (rest := [.int (x3 - x4), .int (σ 1 x2.toNatClampNeg), .ref (q 0)]) hx hb hml hown hts hl.1 X (zk_Mo_lowest l D q cI cZ h26) zkw_Mo_lowest zl_Mo_105 rfl rfl (Nat.le_of_ble_eq_true rfl) ⟨rfl, rfl⟩ ⟨Nat.le_of_ble_eq_true rfl, Nat.le_of_ble_eq_true rfl⟩ zd_Mo_compute_151 (fun H locs X => ?_)
    obtain ⟨u24, h25, hf⟩ := Option.bind_eq_some_iff.mp hf
    refine zr_cvV (As := [.int (σ 1 x2.toNatClampNeg), .int (x3 - x4), .int r23]) (rest := []) (q0 := 0) (ci := 9) hx hb hml hown hts hl.1 X (zk_Mo_put l D q cI cZ h25) zkw_Mo_put zl_Mo_98 rfl rfl (Nat.le_of_ble_eq_true rfl) rfl rfl ⟨rfl, rfl⟩ ⟨Nat.le_of_ble_eq_true rfl, Nat.le_of_ble_eq_true rfl⟩ zd_Mo_compute_154 (fun H locs X => ?_)
    exact zw_Mo_compute_b157 hx hb hml hown hts hr hlocks out u24 x1 x2 x3 x4 x5 x6 x7 _ _ _ X hl hf

set_option maxRecDepth 100000 in
set_option maxHeartbeats 4000000 in
theorem zw_Mo_compute_b109 {p : Program} {l : Launch} {e : Env} {s : State} {m : MethodId} {args : Array Value} {below : List Frame} {meth : Method} {c : Code} {D : va_G} {q : Nat → Nat} {cI cZ : ClassId} {A : Nat → Prop} (hx : p.tables.exec = Jvm.exec) (hb : c.code = zc_Mo_compute) (hml : c.maxLocals = 8) (hown : s.vm.findClass zR_Mo = some m.cls) (hts : ∀ w ∈ zz_WS, w.before args s = true) (hr : meth.sig.returnType = none) (hlocks : meth.locks = false) (out : St) : ∀ (σ : St) (x1 x2 x3 x4 x5 x6 x7 : Int32) (H : Heap) (locs : List Loc) (ls : Array Slot), zz_X D vwCl (zz_tys cI cZ) A s H locs ((wM q cI cZ) σ) → lv_has ls 8 [(0, .ref (q 0)), (1, .int x1), (2, .int x2), (3, .int x3), (4, .int x4), (5, .int x5), (6, .int x6), (7, .int x7)] → zf_Mo_compute_b109 σ x1 x2 x3 x4 x5 x6 x7 = some out → W p l e zm_Mo_compute s m args below meth c H locs 0 0 (MQ below (zq_V D vwCl (zz_tys cI cZ) (wM q cI cZ) A out) args s 0 0 A) (F0 m 109 ls []) := by
  intro σ x1 x2 x3 x4 x5 x6 x7 H locs ls X hl hf
  rw [zf_Mo_compute_b109] at hf
  refine lv_iload_n hx hb zd_Mo_compute_109 rfl (lv_at hl 1 rfl) ?_
  refine lv_iconst (v := 3) hx hb zd_Mo_compute_110 (by decide) ?_
  refine lv_icmp_ne (tgt := 133) hx hb zd_Mo_compute_111 (by decide) (fun g32 => ?_) (fun g32 => ?_)
  · rw [if_neg g32] at hf
    exact zw_Mo_compute_b133 hx hb hml hown hts hr hlocks out σ x1 x2 x3 x4 x5 x6 x7 _ _ _ X hl hf
  · rw [if_pos g32] at hf
    refine lv_aload_n hx hb zd_Mo_compute_114 rfl (lv_at hl 0 rfl) ?_
    refine lv_aload_n hx hb zd_Mo_compute_115 rfl (lv_at hl 0 rfl) ?_
    refine zg_Mo_d hx hb hts hown X zd_Mo_compute_116 ?_
    refine lv_iload_n hx hb zd_Mo_compute_119 rfl (lv_at hl 2 rfl) ?_
    obtain ⟨hin, hf⟩ := zz_ck_some hf
    refine za_Mo_d hx hb X hin zd_Mo_compute_120 ?_
    refine lv_iload_n hx hb zd_Mo_compute_121 rfl (lv_at hl 3 rfl) ?_
    refine lv_iload hx hb zd_Mo_compute_122 (lv_at hl 4 rfl) ?_
    refine lv_iadd hx hb zd_Mo_compute_124 ?_
    refine lv_iload hx hb zd_Mo_compute_125 (lv_at hl 7 rfl) ?_
    obtain ⟨r28, h31, hf⟩ := Option.bind_eq_some_iff.mp hf
    refine zr_csP (As := [.int x7]) (rest := [.int (x3 + x4), .int (σ 1 x2.toNatClampNeg), .ref (q 0)]) hx hb hml hown hts hl.1 X (zk_Mo_lowest l D q cI cZ h31) zkw_Mo_lowest zl_Mo_105 rfl rfl (Nat.le_of_ble_eq_true rfl) ⟨rfl, rfl⟩ ⟨Nat.le_of_ble_eq_true rfl, Nat.le_of_ble_eq_true rfl⟩ zd_Mo_compute_127 (fun H locs X => ?_)
    obtain ⟨u29, h30, hf⟩ := Option.bind_eq_some_iff.mp hf
    refine zr_cvV (As := [.int (σ 1 x2.toNatClampNeg), .int (x3 + x4), .int r28]) (rest := []) (q0 := 0) (ci := 9) hx hb hml hown hts hl.1 X (zk_Mo_put l D q cI cZ h30) zkw_Mo_put zl_Mo_98 rfl rfl (Nat.le_of_ble_eq_true rfl) rfl rfl ⟨rfl, rfl⟩ ⟨Nat.le_of_ble_eq_true rfl, Nat.le_of_ble_eq_true rfl⟩ zd_Mo_compute_130 (fun H locs X => ?_)
    exact zw_Mo_compute_b133 hx hb hml hown hts hr hlocks out u29 x1 x2 x3 x4 x5 x6 x7 _ _ _ X hl hf

set_option maxRecDepth 100000 in
set_option maxHeartbeats 4000000 in
theorem zw_Mo_compute_b81 {p : Program} {l : Launch} {e : Env} {s : State} {m : MethodId} {args : Array Value} {below : List Frame} {meth : Method} {c : Code} {D : va_G} {q : Nat → Nat} {cI cZ : ClassId} {A : Nat → Prop} (hx : p.tables.exec = Jvm.exec) (hb : c.code = zc_Mo_compute) (hml : c.maxLocals = 8) (hown : s.vm.findClass zR_Mo = some m.cls) (hts : ∀ w ∈ zz_WS, w.before args s = true) (hr : meth.sig.returnType = none) (hlocks : meth.locks = false) (out : St) : ∀ (σ : St) (x1 x2 x3 x4 x5 x6 x7 : Int32) (H : Heap) (locs : List Loc) (ls : Array Slot), zz_X D vwCl (zz_tys cI cZ) A s H locs ((wM q cI cZ) σ) → lv_has ls 8 [(0, .ref (q 0)), (1, .int x1), (2, .int x2), (3, .int x3), (4, .int x4), (5, .int x5), (6, .int x6), (7, .int x7)] → zf_Mo_compute_b81 σ x1 x2 x3 x4 x5 x6 x7 = some out → W p l e zm_Mo_compute s m args below meth c H locs 0 0 (MQ below (zq_V D vwCl (zz_tys cI cZ) (wM q cI cZ) A out) args s 0 0 A) (F0 m 81 ls []) := by
  intro σ x1 x2 x3 x4 x5 x6 x7 H locs ls X hl hf
  rw [zf_Mo_compute_b81] at hf
  refine lv_iload_n hx hb zd_Mo_compute_81 rfl (lv_at hl 1 rfl) ?_
  refine lv_iconst (v := 2) hx hb zd_Mo_compute_82 (by decide) ?_
  refine lv_icmp_ne (tgt := 109) hx hb zd_Mo_compute_83 (by decide) (fun g37 => ?_) (fun g37 => ?_)
  · rw [if_neg g37] at hf
    exact zw_Mo_compute_b109 hx hb hml hown hts hr hlocks out σ x1 x2 x3 x4 x5 x6 x7 _ _ _ X hl hf
  · rw [if_pos g37] at hf
    refine lv_aload_n hx hb zd_Mo_compute_86 rfl (lv_at hl 0 rfl) ?_
    refine lv_aload_n hx hb zd_Mo_compute_87 rfl (lv_at hl 0 rfl) ?_
    refine zg_Mo_d hx hb hts hown X zd_Mo_compute_88 ?_
    refine lv_iload_n hx hb zd_Mo_compute_91 rfl (lv_at hl 2 rfl) ?_
    obtain ⟨hin, hf⟩ := zz_ck_some hf
    refine za_Mo_d hx hb X hin zd_Mo_compute_92 ?_
    refine lv_iload_n hx hb zd_Mo_compute_93 rfl (lv_at hl 3 rfl) ?_
    refine lv_aload_n hx hb zd_Mo_compute_94 rfl (lv_at hl 0 rfl) ?_
    refine zg_Mo_n hx hb hts hown X zd_Mo_compute_95 ?_
    refine lv_iload_n hx hb zd_Mo_compute_98 rfl (lv_at hl 2 rfl) ?_
    obtain ⟨hin, hf⟩ := zz_ck_some hf
    refine za_Mo_n hx hb X hin zd_Mo_compute_99 ?_
    refine lv_iadd hx hb zd_Mo_compute_100 ?_
    refine lv_iload hx hb zd_Mo_compute_101 (lv_at hl 5 rfl) ?_
    obtain ⟨r33, h36, hf⟩ := Option.bind_eq_some_iff.mp hf
    refine zr_csP (As := [.int x5]) (rest := [.int (x3 + (σ 4 x2.toNatClampNeg)), .int (σ 1 x2.toNatClampNeg), .ref (q 0)]) hx hb hml hown hts hl.1 X (zk_Mo_lowest l D q cI cZ h36) zkw_Mo_lowest zl_Mo_105 rfl rfl (Nat.le_of_ble_eq_true rfl) ⟨rfl, rfl⟩ ⟨Nat.le_of_ble_eq_true rfl, Nat.le_of_ble_eq_true rfl⟩ zd_Mo_compute_103 (fun H locs X => ?_)
    obtain ⟨u34, h35, hf⟩ := Option.bind_eq_some_iff.mp hf
    refine zr_cvV (As := [.int (σ 1 x2.toNatClampNeg), .int (x3 + (σ 4 x2.toNatClampNeg)), .int r33]) (rest := []) (q0 := 0) (ci := 9) hx hb hml hown hts hl.1 X (zk_Mo_put l D q cI cZ h35) zkw_Mo_put zl_Mo_98 rfl rfl (Nat.le_of_ble_eq_true rfl) rfl rfl ⟨rfl, rfl⟩ ⟨Nat.le_of_ble_eq_true rfl, Nat.le_of_ble_eq_true rfl⟩ zd_Mo_compute_106 (fun H locs X => ?_)
    exact zw_Mo_compute_b109 hx hb hml hown hts hr hlocks out u34 x1 x2 x3 x4 x5 x6 x7 _ _ _ X hl hf

set_option maxRecDepth 100000 in
set_option maxHeartbeats 4000000 in
theorem zk_Mo_compute (l : Launch) (D : va_G) (q : Nat → Nat) (cI cZ : ClassId) {σ : St} {x1 x2 : Int32} {out : St} (hf : zf_Mo_compute σ x1 x2 = some out) : zV l D vwCl (zz_tys cI cZ) (wM q cI cZ) zy_Mo_compute (.code zy_Mo_compute zc_Mo_compute 8 none :: zz_WS) zm_Mo_compute [.ref (q 0), .int x1, .int x2] σ out := by
  refine zV_of (by decide +kernel) (Nat.le_of_ble_eq_true rfl) (fun p e s m below meth c A ls hx hb hml hown hts hr hlocks X hl => ?_)
  have hl : lv_has ls 8 [(0, .ref (q 0)), (1, .int x1), (2, .int x2)] := hl
  unfold zf_Mo_compute at hf
  refine lv_aload_n hx hb zd_Mo_compute_0 rfl (lv_at hl 0 rfl) ?_
  refine zg_Mo_register hx hb hts hown X zd_Mo_compute_1 ?_
  refine lv_aload_n hx hb zd_Mo_compute_4 rfl (lv_at hl 0 rfl) ?_
  refine zg_Mo_a hx hb hts hown X zd_Mo_compute_5 ?_
  refine lv_iload_n hx hb zd_Mo_compute_8 rfl (lv_at hl 2 rfl) ?_
  obtain ⟨hin, hf⟩ := zz_ck_some hf
  refine za_Mo_a hx hb X hin zd_Mo_compute_9 ?_
  obtain ⟨hin, hf⟩ := zz_ck_some hf
  refine za_Mo_register hx hb X hin zd_Mo_compute_10 ?_
  refine lv_istore_n (lv' := [(3, .int (σ 8 (σ 2 x2.toNatClampNeg).toNatClampNeg)), (0, .ref (q 0)), (1, .int x1), (2, .int x2)]) hx hb zd_Mo_compute_11 rfl hl (by decide) rfl (fun ls hl => ?_)
  refine lv_aload_n hx hb zd_Mo_compute_12 rfl (lv_at hl 1 rfl) ?_
  refine zg_Mo_register hx hb hts hown X zd_Mo_compute_13 ?_
  refine lv_aload_n hx hb zd_Mo_compute_16 rfl (lv_at hl 1 rfl) ?_
  refine zg_Mo_b hx hb hts hown X zd_Mo_compute_17 ?_
  refine lv_iload_n hx hb zd_Mo_compute_20 rfl (lv_at hl 3 rfl) ?_
  obtain ⟨hin, hf⟩ := zz_ck_some hf
  refine za_Mo_b hx hb X hin zd_Mo_compute_21 ?_
  obtain ⟨hin, hf⟩ := zz_ck_some hf
  refine za_Mo_register hx hb X hin zd_Mo_compute_22 ?_
  refine lv_istore (lv' := [(4, .int (σ 8 (σ 3 x2.toNatClampNeg).toNatClampNeg)), (3, .int (σ 8 (σ 2 x2.toNatClampNeg).toNatClampNeg)), (0, .ref (q 0)), (1, .int x1), (2, .int x2)]) hx hb zd_Mo_compute_23 hl (by decide) rfl (fun ls hl => ?_)
  refine lv_aload_n hx hb zd_Mo_compute_25 rfl (lv_at hl 2 rfl) ?_
  refine zg_Mo_sure hx hb hts hown X zd_Mo_compute_26 ?_
  refine lv_aload_n hx hb zd_Mo_compute_29 rfl (lv_at hl 2 rfl) ?_
  refine zg_Mo_a hx hb hts hown X zd_Mo_compute_30 ?_
  refine lv_iload_n hx hb zd_Mo_compute_33 rfl (lv_at hl 4 rfl) ?_
  obtain ⟨hin, hf⟩ := zz_ck_some hf
  refine za_Mo_a hx hb X hin zd_Mo_compute_34 ?_
  obtain ⟨hin, hf⟩ := zz_ck_some hf
  refine za_Mo_sure hx hb X hin zd_Mo_compute_35 ?_
  refine lv_istore (lv' := [(5, .int (σ 9 (σ 2 x2.toNatClampNeg).toNatClampNeg)), (4, .int (σ 8 (σ 3 x2.toNatClampNeg).toNatClampNeg)), (3, .int (σ 8 (σ 2 x2.toNatClampNeg).toNatClampNeg)), (0, .ref (q 0)), (1, .int x1), (2, .int x2)]) hx hb zd_Mo_compute_36 hl (by decide) rfl (fun ls hl => ?_)
  refine lv_aload_n hx hb zd_Mo_compute_38 rfl (lv_at hl 3 rfl) ?_
  refine zg_Mo_sure hx hb hts hown X zd_Mo_compute_39 ?_
  refine lv_aload_n hx hb zd_Mo_compute_42 rfl (lv_at hl 3 rfl) ?_
  refine zg_Mo_b hx hb hts hown X zd_Mo_compute_43 ?_
  refine lv_iload_n hx hb zd_Mo_compute_46 rfl (lv_at hl 5 rfl) ?_
  obtain ⟨hin, hf⟩ := zz_ck_some hf
  refine za_Mo_b hx hb X hin zd_Mo_compute_47 ?_
  obtain ⟨hin, hf⟩ := zz_ck_some hf
  refine za_Mo_sure hx hb X hin zd_Mo_compute_48 ?_
  refine lv_istore (lv' := [(6, .int (σ 9 (σ 3 x2.toNatClampNeg).toNatClampNeg)), (5, .int (σ 9 (σ 2 x2.toNatClampNeg).toNatClampNeg)), (4, .int (σ 8 (σ 3 x2.toNatClampNeg).toNatClampNeg)), (3, .int (σ 8 (σ 2 x2.toNatClampNeg).toNatClampNeg)), (0, .ref (q 0)), (1, .int x1), (2, .int x2)]) hx hb zd_Mo_compute_49 hl (by decide) rfl (fun ls hl => ?_)
  refine lv_iload hx hb zd_Mo_compute_51 (lv_at hl 1 rfl) ?_
  refine lv_iload hx hb zd_Mo_compute_53 (lv_at hl 0 rfl) ?_
  refine lv_iand hx hb zd_Mo_compute_55 ?_
  refine lv_istore (lv' := [(7, .int ((σ 9 (σ 2 x2.toNatClampNeg).toNatClampNeg) &&& (σ 9 (σ 3 x2.toNatClampNeg).toNatClampNeg))), (6, .int (σ 9 (σ 3 x2.toNatClampNeg).toNatClampNeg)), (5, .int (σ 9 (σ 2 x2.toNatClampNeg).toNatClampNeg)), (4, .int (σ 8 (σ 3 x2.toNatClampNeg).toNatClampNeg)), (3, .int (σ 8 (σ 2 x2.toNatClampNeg).toNatClampNeg)), (0, .ref (q 0)), (1, .int x1), (2, .int x2)]) hx hb zd_Mo_compute_56 hl (by decide) rfl (fun ls hl => ?_)
  refine lv_iload_n hx hb zd_Mo_compute_58 rfl (lv_at hl 6 rfl) ?_
  refine lv_iconst (v := 1) hx hb zd_Mo_compute_59 (by decide) ?_
  refine lv_icmp_ne (tgt := 81) hx hb zd_Mo_compute_60 (by decide) (fun g40 => ?_) (fun g40 => ?_)
  · rw [if_neg g40] at hf
    exact zw_Mo_compute_b81 hx hb hml hown hts hr hlocks out σ x1 x2 (σ 8 (σ 2 x2.toNatClampNeg).toNatClampNeg) (σ 8 (σ 3 x2.toNatClampNeg).toNatClampNeg) (σ 9 (σ 2 x2.toNatClampNeg).toNatClampNeg) (σ 9 (σ 3 x2.toNatClampNeg).toNatClampNeg) ((σ 9 (σ 2 x2.toNatClampNeg).toNatClampNeg) &&& (σ 9 (σ 3 x2.toNatClampNeg).toNatClampNeg)) _ _ _ X (lv_sub hl [5, 6, 7, 4, 3, 2, 1, 0] rfl) hf
  · rw [if_pos g40] at hf
    refine lv_aload_n hx hb zd_Mo_compute_63 rfl (lv_at hl 5 rfl) ?_
    refine lv_aload_n hx hb zd_Mo_compute_64 rfl (lv_at hl 5 rfl) ?_
    refine zg_Mo_d hx hb hts hown X zd_Mo_compute_65 ?_
    refine lv_iload_n hx hb zd_Mo_compute_68 rfl (lv_at hl 7 rfl) ?_
    obtain ⟨hin, hf⟩ := zz_ck_some hf
    refine za_Mo_d hx hb X hin zd_Mo_compute_69 ?_
    refine lv_aload_n hx hb zd_Mo_compute_70 rfl (lv_at hl 5 rfl) ?_
    refine zg_Mo_n hx hb hts hown X zd_Mo_compute_71 ?_
    refine lv_iload_n hx hb zd_Mo_compute_74 rfl (lv_at hl 7 rfl) ?_
    obtain ⟨hin, hf⟩ := zz_ck_some hf
    refine za_Mo_n hx hb X hin zd_Mo_compute_75 ?_
    refine lv_bipush (v := 15) hx hb zd_Mo_compute_76 (by decide) ?_
    obtain ⟨u38, h39, hf⟩ := Option.bind_eq_some_iff.mp hf
    refine zr_cvV (As := [.int (σ 1 x2.toNatClampNeg), .int (σ 4 x2.toNatClampNeg), .int (15 : Int32)]) (rest := []) (q0 := 0) (ci := 9) hx hb hml hown hts hl.1 X (zk_Mo_put l D q cI cZ h39) zkw_Mo_put zl_Mo_98 rfl rfl (Nat.le_of_ble_eq_true rfl) rfl rfl ⟨rfl, rfl⟩ ⟨Nat.le_of_ble_eq_true rfl, Nat.le_of_ble_eq_true rfl⟩ zd_Mo_compute_78 (fun H locs X => ?_)
    exact zw_Mo_compute_b81 hx hb hml hown hts hr hlocks out u38 x1 x2 (σ 8 (σ 2 x2.toNatClampNeg).toNatClampNeg) (σ 8 (σ 3 x2.toNatClampNeg).toNatClampNeg) (σ 9 (σ 2 x2.toNatClampNeg).toNatClampNeg) (σ 9 (σ 3 x2.toNatClampNeg).toNatClampNeg) ((σ 9 (σ 2 x2.toNatClampNeg).toNatClampNeg) &&& (σ 9 (σ 3 x2.toNatClampNeg).toNatClampNeg)) _ _ _ X (lv_sub hl [5, 6, 7, 4, 3, 2, 1, 0] rfl) hf

set_option maxRecDepth 100000 in
set_option maxHeartbeats 4000000 in
theorem zw_Mo_closed_L3 {p : Program} {l : Launch} {e : Env} {s : State} {m : MethodId} {args : Array Value} {below : List Frame} {meth : Method} {c : Code} {D : va_G} {q : Nat → Nat} {cI cZ : ClassId} {A : Nat → Prop} (hx : p.tables.exec = Jvm.exec) (hb : c.code = zc_Mo_closed) (hml : c.maxLocals = 5) (hown : s.vm.findClass zR_Mo = some m.cls) (hts : ∀ w ∈ zz_WS, w.before args s = true) (hr : meth.sig.returnType = none) (hlocks : meth.locks = false) (out : St) (kx : St → Option St) (hkx : ∀ (σ : St) (H : Heap) (locs : List Loc) (ls : Array Slot), zz_X D vwCl (zz_tys cI cZ) A s H locs ((wM q cI cZ) σ) → lv_has ls 5 [] → kx σ = some out → W p l e zm_Mo_closed s m args below meth c H locs 0 0 (MQ below (zq_V D vwCl (zz_tys cI cZ) (wM q cI cZ) A out) args s 0 0 A) (F0 m 41 ls [])) : ∀ (n : Nat) (σ : St) (x1 x2 x3 x4 : Int32) (H : Heap) (locs : List Loc) (ls : Array Slot), zz_X D vwCl (zz_tys cI cZ) A s H locs ((wM q cI cZ) σ) → lv_has ls 5 [(0, .ref (q 0)), (1, .int x1), (2, .int x2), (3, .int x3), (4, .int x4)] → zf_Mo_closed_L3 kx n σ x1 x2 x3 x4 = some out → W p l e zm_Mo_closed s m args below meth c H locs 0 0 (MQ below (zq_V D vwCl (zz_tys cI cZ) (wM q cI cZ) A out) args s 0 0 A) (F0 m 3 ls []) := by
  intro n
  induction n with
  | zero =>
    intro σ x1 x2 x3 x4 H locs ls X hl hf
    exact absurd hf (by simp [zf_Mo_closed_L3])
  | succ n ih =>
    intro σ x1 x2 x3 x4 H locs ls X hl hf
    rw [zf_Mo_closed_L3] at hf
    refine lv_iload hx hb zd_Mo_closed_3 (lv_at hl 4 rfl) ?_
    refine lv_iload_n hx hb zd_Mo_closed_5 rfl (lv_at hl 3 rfl) ?_
    refine lv_icmp_ge (tgt := 41) hx hb zd_Mo_closed_6 (by decide) (fun g4 => ?_) (fun g4 => ?_)
    · rw [if_pos g4] at hf
      exact hkx σ _ _ _ X (lv_sub hl [] rfl) hf
    · rw [if_neg g4] at hf
      refine lv_aload_n hx hb zd_Mo_closed_9 rfl (lv_at hl 0 rfl) ?_
      refine zg_Mo_open hx hb hts hown X zd_Mo_closed_10 ?_
      refine lv_iload_n hx hb zd_Mo_closed_13 rfl (lv_at hl 2 rfl) ?_
      refine lv_iload hx hb zd_Mo_closed_14 (lv_at hl 4 rfl) ?_
      refine lv_iadd hx hb zd_Mo_closed_16 ?_
      obtain ⟨hin, hf⟩ := zz_ck_some hf
      refine za_Mo_open hx hb X hin zd_Mo_closed_17 ?_
      refine lv_iconst (v := 1) hx hb zd_Mo_closed_18 (by decide) ?_
      refine lv_icmp_ne (tgt := 25) hx hb zd_Mo_closed_19 (by decide) (fun g3 => ?_) (fun g3 => ?_)
      · rw [if_neg g3] at hf
        refine lv_aload_n hx hb zd_Mo_closed_25 rfl (lv_at hl 0 rfl) ?_
        refine lv_iload_n hx hb zd_Mo_closed_26 rfl (lv_at hl 1 rfl) ?_
        refine lv_iload_n hx hb zd_Mo_closed_27 rfl (lv_at hl 2 rfl) ?_
        refine lv_iload hx hb zd_Mo_closed_28 (lv_at hl 4 rfl) ?_
        refine lv_iadd hx hb zd_Mo_closed_30 ?_
        obtain ⟨u1, h2, hf⟩ := Option.bind_eq_some_iff.mp hf
        refine zr_cvV (As := [.int x1, .int (x2 + x4)]) (rest := []) (q0 := 0) (ci := 9) hx hb hml hown hts hl.1 X (zk_Mo_note l D q cI cZ h2) zkw_Mo_note zl_Mo_112 rfl rfl (Nat.le_of_ble_eq_true rfl) rfl rfl ⟨rfl, rfl⟩ ⟨Nat.le_of_ble_eq_true rfl, Nat.le_of_ble_eq_true rfl⟩ zd_Mo_closed_31 (fun H locs X => ?_)
        exact zr_vret hx hb hr hlocks X (Option.some.inj hf) zd_Mo_closed_34
      · rw [if_pos g3] at hf
        refine lv_goto (tgt := 35) hx hb zd_Mo_closed_22 (by decide) ?_
        refine lv_iinc (v := (x4 + (1 : Int32))) (lv' := [(4, .int (x4 + (1 : Int32))), (0, .ref (q 0)), (1, .int x1), (2, .int x2), (3, .int x3)]) hx hb zd_Mo_closed_35 hl (k := 4) rfl rfl (by decide) rfl (fun ls hl => ?_)
        refine lv_goto (tgt := 3) hx hb zd_Mo_closed_38 (by decide) ?_
        exact ih σ x1 x2 x3 (x4 + (1 : Int32)) _ _ _ X (lv_sub hl [1, 2, 3, 4, 0] rfl) hf

set_option maxRecDepth 100000 in
set_option maxHeartbeats 4000000 in
theorem zk_Mo_closed (l : Launch) (D : va_G) (q : Nat → Nat) (cI cZ : ClassId) {σ : St} {x1 x2 x3 : Int32} {out : St} (hf : zf_Mo_closed σ x1 x2 x3 = some out) : zV l D vwCl (zz_tys cI cZ) (wM q cI cZ) zy_Mo_closed (.code zy_Mo_closed zc_Mo_closed 5 none :: zz_WS) zm_Mo_closed [.ref (q 0), .int x1, .int x2, .int x3] σ out := by
  refine zV_of (by decide +kernel) (Nat.le_of_ble_eq_true rfl) (fun p e s m below meth c A ls hx hb hml hown hts hr hlocks X hl => ?_)
  have hl : lv_has ls 5 [(0, .ref (q 0)), (1, .int x1), (2, .int x2), (3, .int x3)] := hl
  unfold zf_Mo_closed at hf
  refine lv_iconst (v := 0) hx hb zd_Mo_closed_0 (by decide) ?_
  refine lv_istore (lv' := [(4, .int (0 : Int32)), (0, .ref (q 0)), (1, .int x1), (2, .int x2), (3, .int x3)]) hx hb zd_Mo_closed_1 hl (by decide) rfl (fun ls hl => ?_)
  refine zw_Mo_closed_L3 hx hb hml hown hts hr hlocks out _ (fun s5 H locs ls X hl hf => ?_) 300 σ x1 x2 x3 (0 : Int32) _ _ _ X (lv_sub hl [1, 2, 3, 4, 0] rfl) hf
  exact zr_vret hx hb hr hlocks X (Option.some.inj hf) zd_Mo_closed_41

set_option maxRecDepth 100000 in
set_option maxHeartbeats 4000000 in
theorem zk_Mo_word (l : Launch) (D : va_G) (q : Nat → Nat) (cI cZ : ClassId) {σ : St} {x1 : Int32} {out : Int32} (hf : zf_Mo_word σ x1 = some out) : zI l D vwCl (zz_tys cI cZ) (wM q cI cZ) zy_Mo_word (.code zy_Mo_word zc_Mo_word 2 (some .int) :: zz_WS) zm_Mo_word [.ref (q 0), .int x1] σ (out, σ) := by
  refine zI_of (by decide +kernel) (Nat.le_of_ble_eq_true rfl) (fun p e s m below meth c A ls hx hb hml hown hts hr hlocks X hl => ?_)
  have hl : lv_has ls 2 [(0, .ref (q 0)), (1, .int x1)] := hl
  unfold zf_Mo_word at hf
  refine lv_aload_n hx hb zd_Mo_word_0 rfl (lv_at hl 0 rfl) ?_
  refine zg_Mo_memory hx hb hts hown X zd_Mo_word_1 ?_
  refine lv_iload_n hx hb zd_Mo_word_4 rfl (lv_at hl 1 rfl) ?_
  obtain ⟨hin, hf⟩ := zz_ck_some hf
  refine za_Mo_memory hx hb X hin zd_Mo_word_5 ?_
  refine lv_aload_n hx hb zd_Mo_word_6 rfl (lv_at hl 0 rfl) ?_
  refine zg_Mo_memory hx hb hts hown X zd_Mo_word_7 ?_
  refine lv_iload_n hx hb zd_Mo_word_10 rfl (lv_at hl 1 rfl) ?_
  refine lv_iconst (v := 1) hx hb zd_Mo_word_11 (by decide) ?_
  refine lv_iadd hx hb zd_Mo_word_12 ?_
  obtain ⟨hin, hf⟩ := zz_ck_some hf
  refine za_Mo_memory hx hb X hin zd_Mo_word_13 ?_
  refine lv_bipush (v := 8) hx hb zd_Mo_word_14 (by decide) ?_
  refine lv_ishl hx hb zd_Mo_word_16 ?_
  refine lv_ior hx hb zd_Mo_word_17 ?_
  refine lv_aload_n hx hb zd_Mo_word_18 rfl (lv_at hl 0 rfl) ?_
  refine zg_Mo_memory hx hb hts hown X zd_Mo_word_19 ?_
  refine lv_iload_n hx hb zd_Mo_word_22 rfl (lv_at hl 1 rfl) ?_
  refine lv_iconst (v := 2) hx hb zd_Mo_word_23 (by decide) ?_
  refine lv_iadd hx hb zd_Mo_word_24 ?_
  obtain ⟨hin, hf⟩ := zz_ck_some hf
  refine za_Mo_memory hx hb X hin zd_Mo_word_25 ?_
  refine lv_bipush (v := 16) hx hb zd_Mo_word_26 (by decide) ?_
  refine lv_ishl hx hb zd_Mo_word_28 ?_
  refine lv_ior hx hb zd_Mo_word_29 ?_
  refine lv_aload_n hx hb zd_Mo_word_30 rfl (lv_at hl 0 rfl) ?_
  refine zg_Mo_memory hx hb hts hown X zd_Mo_word_31 ?_
  refine lv_iload_n hx hb zd_Mo_word_34 rfl (lv_at hl 1 rfl) ?_
  refine lv_iconst (v := 3) hx hb zd_Mo_word_35 (by decide) ?_
  refine lv_iadd hx hb zd_Mo_word_36 ?_
  obtain ⟨hin, hf⟩ := zz_ck_some hf
  refine za_Mo_memory hx hb X hin zd_Mo_word_37 ?_
  refine lv_bipush (v := 24) hx hb zd_Mo_word_38 (by decide) ?_
  refine lv_ishl hx hb zd_Mo_word_40 ?_
  refine lv_ior hx hb zd_Mo_word_41 ?_
  exact zr_iretP hx hb hr hlocks X (Option.some.inj hf) zd_Mo_word_42

set_option maxRecDepth 100000 in
set_option maxHeartbeats 4000000 in
theorem zk_Mo_wordKnown (l : Launch) (D : va_G) (q : Nat → Nat) (cI cZ : ClassId) {σ : St} {x1 : Int32} {out : Int32} (hf : zf_Mo_wordKnown σ x1 = some out) : zI l D vwCl (zz_tys cI cZ) (wM q cI cZ) zy_Mo_wordKnown (.code zy_Mo_wordKnown zc_Mo_wordKnown 2 (some .int) :: zz_WS) zm_Mo_wordKnown [.ref (q 0), .int x1] σ (out, σ) := by
  refine zI_of (by decide +kernel) (Nat.le_of_ble_eq_true rfl) (fun p e s m below meth c A ls hx hb hml hown hts hr hlocks X hl => ?_)
  have hl : lv_has ls 2 [(0, .ref (q 0)), (1, .int x1)] := hl
  unfold zf_Mo_wordKnown at hf
  refine lv_aload_n hx hb zd_Mo_wordKnown_0 rfl (lv_at hl 0 rfl) ?_
  refine zg_Mo_known hx hb hts hown X zd_Mo_wordKnown_1 ?_
  refine lv_iload_n hx hb zd_Mo_wordKnown_4 rfl (lv_at hl 1 rfl) ?_
  obtain ⟨hin, hf⟩ := zz_ck_some hf
  refine za_Mo_known hx hb X hin zd_Mo_wordKnown_5 ?_
  refine lv_aload_n hx hb zd_Mo_wordKnown_6 rfl (lv_at hl 0 rfl) ?_
  refine zg_Mo_known hx hb hts hown X zd_Mo_wordKnown_7 ?_
  refine lv_iload_n hx hb zd_Mo_wordKnown_10 rfl (lv_at hl 1 rfl) ?_
  refine lv_iconst (v := 1) hx hb zd_Mo_wordKnown_11 (by decide) ?_
  refine lv_iadd hx hb zd_Mo_wordKnown_12 ?_
  obtain ⟨hin, hf⟩ := zz_ck_some hf
  refine za_Mo_known hx hb X hin zd_Mo_wordKnown_13 ?_
  refine lv_iconst (v := 1) hx hb zd_Mo_wordKnown_14 (by decide) ?_
  refine lv_ishl hx hb zd_Mo_wordKnown_15 ?_
  refine lv_ior hx hb zd_Mo_wordKnown_16 ?_
  refine lv_aload_n hx hb zd_Mo_wordKnown_17 rfl (lv_at hl 0 rfl) ?_
  refine zg_Mo_known hx hb hts hown X zd_Mo_wordKnown_18 ?_
  refine lv_iload_n hx hb zd_Mo_wordKnown_21 rfl (lv_at hl 1 rfl) ?_
  refine lv_iconst (v := 2) hx hb zd_Mo_wordKnown_22 (by decide) ?_
  refine lv_iadd hx hb zd_Mo_wordKnown_23 ?_
  obtain ⟨hin, hf⟩ := zz_ck_some hf
  refine za_Mo_known hx hb X hin zd_Mo_wordKnown_24 ?_
  refine lv_iconst (v := 2) hx hb zd_Mo_wordKnown_25 (by decide) ?_
  refine lv_ishl hx hb zd_Mo_wordKnown_26 ?_
  refine lv_ior hx hb zd_Mo_wordKnown_27 ?_
  refine lv_aload_n hx hb zd_Mo_wordKnown_28 rfl (lv_at hl 0 rfl) ?_
  refine zg_Mo_known hx hb hts hown X zd_Mo_wordKnown_29 ?_
  refine lv_iload_n hx hb zd_Mo_wordKnown_32 rfl (lv_at hl 1 rfl) ?_
  refine lv_iconst (v := 3) hx hb zd_Mo_wordKnown_33 (by decide) ?_
  refine lv_iadd hx hb zd_Mo_wordKnown_34 ?_
  obtain ⟨hin, hf⟩ := zz_ck_some hf
  refine za_Mo_known hx hb X hin zd_Mo_wordKnown_35 ?_
  refine lv_iconst (v := 3) hx hb zd_Mo_wordKnown_36 (by decide) ?_
  refine lv_ishl hx hb zd_Mo_wordKnown_37 ?_
  refine lv_ior hx hb zd_Mo_wordKnown_38 ?_
  exact zr_iretP hx hb hr hlocks X (Option.some.inj hf) zd_Mo_wordKnown_39

set_option maxRecDepth 100000 in
set_option maxHeartbeats 4000000 in
theorem zw_Mo_access_L155 {p : Program} {l : Launch} {e : Env} {s : State} {m : MethodId} {args : Array Value} {below : List Frame} {meth : Method} {c : Code} {D : va_G} {q : Nat → Nat} {cI cZ : ClassId} {A : Nat → Prop} (hx : p.tables.exec = Jvm.exec) (hb : c.code = zc_Mo_access) (hml : c.maxLocals = 6) (hown : s.vm.findClass zR_Mo = some m.cls) (hts : ∀ w ∈ zz_WS, w.before args s = true) (hr : meth.sig.returnType = (some .boolean)) (hlocks : meth.locks = false) (out : (Int32 × St)) (kx : St → Option (Int32 × St)) (hkx : ∀ (σ : St) (H : Heap) (locs : List Loc) (ls : Array Slot), zz_X D vwCl (zz_tys cI cZ) A s H locs ((wM q cI cZ) σ) → lv_has ls 6 [] → kx σ = some out → W p l e zm_Mo_access s m args below meth c H locs 0 0 (MQ below (zq_I D vwCl (zz_tys cI cZ) (wM q cI cZ) A out) args s 0 0 A) (F0 m 229 ls [])) : ∀ (n : Nat) (σ : St) (x1 x2 x3 x4 x5 : Int32) (H : Heap) (locs : List Loc) (ls : Array Slot), zz_X D vwCl (zz_tys cI cZ) A s H locs ((wM q cI cZ) σ) → lv_has ls 6 [(0, .ref (q 0)), (1, .int x1), (2, .int x2), (3, .int x3), (4, .int x4), (5, .int x5)] → zf_Mo_access_L155 kx n σ x1 x2 x3 x4 x5 = some out → W p l e zm_Mo_access s m args below meth c H locs 0 0 (MQ below (zq_I D vwCl (zz_tys cI cZ) (wM q cI cZ) A out) args s 0 0 A) (F0 m 155 ls []) := by
  intro n
  induction n with
  | zero =>
    intro σ x1 x2 x3 x4 x5 H locs ls X hl hf
    exact absurd hf (by simp [zf_Mo_access_L155])
  | succ n ih =>
    intro σ x1 x2 x3 x4 x5 H locs ls X hl hf
    rw [zf_Mo_access_L155] at hf
    refine lv_iload hx hb zd_Mo_access_155 (lv_at hl 5 rfl) ?_
    refine lv_iload hx hb zd_Mo_access_157 (lv_at hl 4 rfl) ?_
    refine lv_icmp_ge (tgt := 229) hx hb zd_Mo_access_159 (by decide) (fun g4 => ?_) (fun g4 => ?_)
    · rw [if_pos g4] at hf
      exact hkx σ _ _ _ X (lv_sub hl [] rfl) hf
    · rw [if_neg g4] at hf
      refine lv_iload_n hx hb zd_Mo_access_162 rfl (lv_at hl 1 rfl) ?_
      refine lv_bipush (v := 10) hx hb zd_Mo_access_163 (by decide) ?_
      refine lv_icmp_le (tgt := 229) hx hb zd_Mo_access_165 (by decide) (fun g3 => ?_) (fun g3 => ?_)
      · rw [if_pos g3] at hf
        exact hkx σ _ _ _ X (lv_sub hl [] rfl) hf
      · rw [if_neg g3] at hf
        refine lv_aload_n hx hb zd_Mo_access_168 rfl (lv_at hl 0 rfl) ?_
        refine zg_Mo_memory hx hb hts hown X zd_Mo_access_169 ?_
        refine lv_iload_n hx hb zd_Mo_access_172 rfl (lv_at hl 3 rfl) ?_
        refine lv_iload hx hb zd_Mo_access_173 (lv_at hl 5 rfl) ?_
        refine lv_iadd hx hb zd_Mo_access_175 ?_
        refine lv_aload_n hx hb zd_Mo_access_176 rfl (lv_at hl 0 rfl) ?_
        refine zg_Mo_register hx hb hts hown X zd_Mo_access_177 ?_
        refine lv_aload_n hx hb zd_Mo_access_180 rfl (lv_at hl 0 rfl) ?_
        refine zg_Mo_b hx hb hts hown X zd_Mo_access_181 ?_
        refine lv_iload_n hx hb zd_Mo_access_184 rfl (lv_at hl 2 rfl) ?_
        obtain ⟨hin, hf⟩ := zz_ck_some hf
        refine za_Mo_b hx hb X hin zd_Mo_access_185 ?_
        obtain ⟨hin, hf⟩ := zz_ck_some hf
        refine za_Mo_register hx hb X hin zd_Mo_access_186 ?_
        refine lv_bipush (v := 8) hx hb zd_Mo_access_187 (by decide) ?_
        refine lv_iload hx hb zd_Mo_access_189 (lv_at hl 5 rfl) ?_
        refine lv_imul hx hb zd_Mo_access_191 ?_
        refine lv_ishr hx hb zd_Mo_access_192 ?_
        refine lv_sipush (v := 255) hx hb zd_Mo_access_193 (by decide) ?_
        refine lv_iand hx hb zd_Mo_access_196 ?_
        obtain ⟨hin, hf⟩ := zz_ck_some hf
        refine zs_Mo_memory hx hb X hin zd_Mo_access_197 (fun H locs X => ?_)
        refine lv_aload_n hx hb zd_Mo_access_198 rfl (lv_at hl 0 rfl) ?_
        refine zg_Mo_known hx hb hts hown X zd_Mo_access_199 ?_
        refine lv_iload_n hx hb zd_Mo_access_202 rfl (lv_at hl 3 rfl) ?_
        refine lv_iload hx hb zd_Mo_access_203 (lv_at hl 5 rfl) ?_
        refine lv_iadd hx hb zd_Mo_access_205 ?_
        refine lv_aload_n hx hb zd_Mo_access_206 rfl (lv_at hl 0 rfl) ?_
        refine zg_Mo_sure hx hb hts hown X zd_Mo_access_207 ?_
        refine lv_aload_n hx hb zd_Mo_access_210 rfl (lv_at hl 0 rfl) ?_
        refine zg_Mo_b hx hb hts hown X zd_Mo_access_211 ?_
        refine lv_iload_n hx hb zd_Mo_access_214 rfl (lv_at hl 2 rfl) ?_
        obtain ⟨hin, hf⟩ := zz_ck_some hf
        refine za_Mo_b hx hb X hin zd_Mo_access_215 ?_
        obtain ⟨hin, hf⟩ := zz_ck_some hf
        refine za_Mo_sure hx hb X hin zd_Mo_access_216 ?_
        refine lv_iload hx hb zd_Mo_access_217 (lv_at hl 5 rfl) ?_
        refine lv_ishr hx hb zd_Mo_access_219 ?_
        refine lv_iconst (v := 1) hx hb zd_Mo_access_220 (by decide) ?_
        refine lv_iand hx hb zd_Mo_access_221 ?_
        obtain ⟨hin, hf⟩ := zz_ck_some hf
        refine zs_Mo_known hx hb X hin zd_Mo_access_222 (fun H locs X => ?_)
        refine lv_iinc (v := (x5 + (1 : Int32))) (lv' := [(5, .int (x5 + (1 : Int32))), (0, .ref (q 0)), (1, .int x1), (2, .int x2), (3, .int x3), (4, .int x4)]) hx hb zd_Mo_access_223 hl (k := 5) rfl rfl (by decide) rfl (fun ls hl => ?_)
        refine lv_goto (tgt := 155) hx hb zd_Mo_access_226 (by decide) ?_
        exact ih (zz_put (zz_put σ 5 (x3 + x5).toNatClampNeg (((σ 8 (σ 3 x2.toNatClampNeg).toNatClampNeg) >>> (((8 : Int32) * x5) &&& 31)) &&& (255 : Int32))) 7 (x3 + x5).toNatClampNeg ((((zz_put σ 5 (x3 + x5).toNatClampNeg (((σ 8 (σ 3 x2.toNatClampNeg).toNatClampNeg) >>> (((8 : Int32) * x5) &&& 31)) &&& (255 : Int32))) 9 ((zz_put σ 5 (x3 + x5).toNatClampNeg (((σ 8 (σ 3 x2.toNatClampNeg).toNatClampNeg) >>> (((8 : Int32) * x5) &&& 31)) &&& (255 : Int32))) 3 x2.toNatClampNeg).toNatClampNeg) >>> (x5 &&& 31)) &&& (1 : Int32))) x1 x2 x3 x4 (x5 + (1 : Int32)) _ _ _ X (lv_sub hl [1, 2, 3, 4, 5, 0] rfl) hf

set_option maxRecDepth 100000 in
set_option maxHeartbeats 4000000 in
theorem zw_Mo_access_b152 {p : Program} {l : Launch} {e : Env} {s : State} {m : MethodId} {args : Array Value} {below : List Frame} {meth : Method} {c : Code} {D : va_G} {q : Nat → Nat} {cI cZ : ClassId} {A : Nat → Prop} (hx : p.tables.exec = Jvm.exec) (hb : c.code = zc_Mo_access) (hml : c.maxLocals = 6) (hown : s.vm.findClass zR_Mo = some m.cls) (hts : ∀ w ∈ zz_WS, w.before args s = true) (hr : meth.sig.returnType = (some .boolean)) (hlocks : meth.locks = false) (out : (Int32 × St)) : ∀ (σ : St) (x1 x2 x3 x4 : Int32) (H : Heap) (locs : List Loc) (ls : Array Slot), zz_X D vwCl (zz_tys cI cZ) A s H locs ((wM q cI cZ) σ) → lv_has ls 6 [(0, .ref (q 0)), (1, .int x1), (2, .int x2), (3, .int x3), (4, .int x4)] → zf_Mo_access_b152 σ x1 x2 x3 x4 = some out → W p l e zm_Mo_access s m args below meth c H locs 0 0 (MQ below (zq_I D vwCl (zz_tys cI cZ) (wM q cI cZ) A out) args s 0 0 A) (F0 m 152 ls []) := by
  intro σ x1 x2 x3 x4 H locs ls X hl hf
  rw [zf_Mo_access_b152] at hf
  refine lv_iconst (v := 0) hx hb zd_Mo_access_152 (by decide) ?_
  refine lv_istore (lv' := [(5, .int (0 : Int32)), (0, .ref (q 0)), (1, .int x1), (2, .int x2), (3, .int x3), (4, .int x4)]) hx hb zd_Mo_access_153 hl (by decide) rfl (fun ls hl => ?_)
  refine zw_Mo_access_L155 hx hb hml hown hts hr hlocks out _ (fun s5 H locs ls X hl hf => ?_) 300 σ x1 x2 x3 x4 (0 : Int32) _ _ _ X (lv_sub hl [1, 2, 3, 4, 5, 0] rfl) hf
  refine lv_iconst (v := 1) hx hb zd_Mo_access_229 (by decide) ?_
  obtain ⟨hz, hf⟩ := zz_kz_some hf
  exact zr_zret hx hb hr hlocks X hz (Option.some.inj hf) zd_Mo_access_230

set_option maxRecDepth 100000 in
set_option maxHeartbeats 4000000 in
theorem zw_Mo_access_b120 {p : Program} {l : Launch} {e : Env} {s : State} {m : MethodId} {args : Array Value} {below : List Frame} {meth : Method} {c : Code} {D : va_G} {q : Nat → Nat} {cI cZ : ClassId} {A : Nat → Prop} (hx : p.tables.exec = Jvm.exec) (hb : c.code = zc_Mo_access) (hml : c.maxLocals = 6) (hown : s.vm.findClass zR_Mo = some m.cls) (hts : ∀ w ∈ zz_WS, w.before args s = true) (hr : meth.sig.returnType = (some .boolean)) (hlocks : meth.locks = false) (out : (Int32 × St)) : ∀ (σ : St) (x1 x2 x3 x4 : Int32) (H : Heap) (locs : List Loc) (ls : Array Slot), zz_X D vwCl (zz_tys cI cZ) A s H locs ((wM q cI cZ) σ) → lv_has ls 6 [(0, .ref (q 0)), (1, .int x1), (2, .int x2), (3, .int x3), (4, .int x4)] → zf_Mo_access_b120 σ x1 x2 x3 x4 = some out → W p l e zm_Mo_access s m args below meth c H locs 0 0 (MQ below (zq_I D vwCl (zz_tys cI cZ) (wM q cI cZ) A out) args s 0 0 A) (F0 m 120 ls []) := by
  intro σ x1 x2 x3 x4 H locs ls X hl hf
  rw [zf_Mo_access_b120] at hf
  refine lv_iload_n hx hb zd_Mo_access_120 rfl (lv_at hl 1 rfl) ?_
  refine lv_bipush (v := 10) hx hb zd_Mo_access_121 (by decide) ?_
  refine lv_icmp_ne (tgt := 152) hx hb zd_Mo_access_123 (by decide) (fun g8 => ?_) (fun g8 => ?_)
  · rw [if_neg g8] at hf
    exact zw_Mo_access_b152 hx hb hml hown hts hr hlocks out σ x1 x2 x3 x4 _ _ _ X hl hf
  · rw [if_pos g8] at hf
    refine lv_aload_n hx hb zd_Mo_access_126 rfl (lv_at hl 0 rfl) ?_
    refine lv_aload_n hx hb zd_Mo_access_127 rfl (lv_at hl 0 rfl) ?_
    refine zg_Mo_d hx hb hts hown X zd_Mo_access_128 ?_
    refine lv_iload_n hx hb zd_Mo_access_131 rfl (lv_at hl 2 rfl) ?_
    obtain ⟨hin, hf⟩ := zz_ck_some hf
    refine za_Mo_d hx hb X hin zd_Mo_access_132 ?_
    refine lv_aload_n hx hb zd_Mo_access_133 rfl (lv_at hl 0 rfl) ?_
    refine zg_Mo_memory hx hb hts hown X zd_Mo_access_134 ?_
    refine lv_iload_n hx hb zd_Mo_access_137 rfl (lv_at hl 3 rfl) ?_
    obtain ⟨hin, hf⟩ := zz_ck_some hf
    refine za_Mo_memory hx hb X hin zd_Mo_access_138 ?_
    refine lv_i2b (v := (σ 5 x3.toNatClampNeg).toInt8.toInt32) hx hb zd_Mo_access_139 rfl ?_
    refine lv_aload_n hx hb zd_Mo_access_140 rfl (lv_at hl 0 rfl) ?_
    refine zg_Mo_known hx hb hts hown X zd_Mo_access_141 ?_
    refine lv_iload_n hx hb zd_Mo_access_144 rfl (lv_at hl 3 rfl) ?_
    obtain ⟨hin, hf⟩ := zz_ck_some hf
    refine za_Mo_known hx hb X hin zd_Mo_access_145 ?_
    refine lv_bipush (v := 15) hx hb zd_Mo_access_146 (by decide) ?_
    refine lv_imul hx hb zd_Mo_access_148 ?_
    obtain ⟨u6, h7, hf⟩ := Option.bind_eq_some_iff.mp hf
    refine zr_cvV (As := [.int (σ 1 x2.toNatClampNeg), .int ((σ 5 x3.toNatClampNeg).toInt8.toInt32), .int ((σ 7 x3.toNatClampNeg) * (15 : Int32))]) (rest := []) (q0 := 0) (ci := 9) hx hb hml hown hts hl.1 X (zk_Mo_put l D q cI cZ h7) zkw_Mo_put zl_Mo_98 rfl rfl (Nat.le_of_ble_eq_true rfl) rfl rfl ⟨rfl, rfl⟩ ⟨Nat.le_of_ble_eq_true rfl, Nat.le_of_ble_eq_true rfl⟩ zd_Mo_access_149 (fun H locs X => ?_)
    exact zw_Mo_access_b152 hx hb hml hown hts hr hlocks out u6 x1 x2 x3 x4 _ _ _ X hl hf

set_option maxRecDepth 100000 in
set_option maxHeartbeats 4000000 in
theorem zw_Mo_access_b60 {p : Program} {l : Launch} {e : Env} {s : State} {m : MethodId} {args : Array Value} {below : List Frame} {meth : Method} {c : Code} {D : va_G} {q : Nat → Nat} {cI cZ : ClassId} {A : Nat → Prop} (hx : p.tables.exec = Jvm.exec) (hb : c.code = zc_Mo_access) (hml : c.maxLocals = 6) (hown : s.vm.findClass zR_Mo = some m.cls) (hts : ∀ w ∈ zz_WS, w.before args s = true) (hr : meth.sig.returnType = (some .boolean)) (hlocks : meth.locks = false) (out : (Int32 × St)) : ∀ (σ : St) (x1 x2 x3 x4 : Int32) (H : Heap) (locs : List Loc) (ls : Array Slot), zz_X D vwCl (zz_tys cI cZ) A s H locs ((wM q cI cZ) σ) → lv_has ls 6 [(0, .ref (q 0)), (1, .int x1), (2, .int x2), (3, .int x3), (4, .int x4)] → zf_Mo_access_b60 σ x1 x2 x3 x4 = some out → W p l e zm_Mo_access s m args below meth c H locs 0 0 (MQ below (zq_I D vwCl (zz_tys cI cZ) (wM q cI cZ) A out) args s 0 0 A) (F0 m 60 ls []) := by
  intro σ x1 x2 x3 x4 H locs ls X hl hf
  rw [zf_Mo_access_b60] at hf
  refine lv_iload_n hx hb zd_Mo_access_60 rfl (lv_at hl 3 rfl) ?_
  refine lv_iconst (v := 0) hx hb zd_Mo_access_61 (by decide) ?_
  refine lv_sipush (v := 256) hx hb zd_Mo_access_62 (by decide) ?_
  refine lv_iload hx hb zd_Mo_access_65 (lv_at hl 4 rfl) ?_
  refine lv_isub hx hb zd_Mo_access_67 ?_
  obtain ⟨r1, h28, hf⟩ := Option.bind_eq_some_iff.mp hf
  refine zr_csP (As := [.int x3, .int (0 : Int32), .int ((256 : Int32) - x4)]) (rest := []) hx hb hml hown hts hl.1 X (zk_Mo_in l D q cI cZ h28) zkw_Mo_in zl_Mo_79 rfl rfl (Nat.le_of_ble_eq_true rfl) ⟨rfl, rfl⟩ ⟨Nat.le_of_ble_eq_true rfl, Nat.le_of_ble_eq_true rfl⟩ zd_Mo_access_68 (fun H locs X => ?_)
  refine lv_if_ne (tgt := 76) hx hb zd_Mo_access_71 (by decide) (fun g27 => ?_) (fun g27 => ?_)
  · rw [if_neg g27] at hf
    refine lv_aload_n hx hb zd_Mo_access_76 rfl (lv_at hl 0 rfl) ?_
    refine lv_iload_n hx hb zd_Mo_access_77 rfl (lv_at hl 1 rfl) ?_
    refine lv_bipush (v := 11) hx hb zd_Mo_access_78 (by decide) ?_
    refine lv_icmp_ge (tgt := 87) hx hb zd_Mo_access_80 (by decide) (fun g26 => ?_) (fun g26 => ?_)
    · rw [if_pos g26] at hf
      refine lv_iconst (v := 2) hx hb zd_Mo_access_87 (by decide) ?_
      refine lv_iload_n hx hb zd_Mo_access_88 rfl (lv_at hl 3 rfl) ?_
      refine lv_iload hx hb zd_Mo_access_89 (lv_at hl 4 rfl) ?_
      obtain ⟨u2, h16, hf⟩ := Option.bind_eq_some_iff.mp hf
      refine zr_cvV (As := [.int (2 : Int32), .int x3, .int x4]) (rest := []) (q0 := 0) (ci := 9) hx hb hml hown hts hl.1 X (zk_Mo_closed l D q cI cZ h16) zkw_Mo_closed zl_Mo_116 rfl rfl (Nat.le_of_ble_eq_true rfl) rfl rfl ⟨rfl, rfl⟩ ⟨Nat.le_of_ble_eq_true rfl, Nat.le_of_ble_eq_true rfl⟩ zd_Mo_access_91 (fun H locs X => ?_)
      refine lv_iload_n hx hb zd_Mo_access_94 rfl (lv_at hl 1 rfl) ?_
      refine lv_bipush (v := 9) hx hb zd_Mo_access_95 (by decide) ?_
      refine lv_icmp_ne (tgt := 120) hx hb zd_Mo_access_97 (by decide) (fun g15 => ?_) (fun g15 => ?_)
      · rw [if_neg g15] at hf
        exact zw_Mo_access_b120 hx hb hml hown hts hr hlocks out u2 x1 x2 x3 x4 _ _ _ X hl hf
      · rw [if_pos g15] at hf
        refine lv_aload_n hx hb zd_Mo_access_100 rfl (lv_at hl 0 rfl) ?_
        refine lv_aload_n hx hb zd_Mo_access_101 rfl (lv_at hl 0 rfl) ?_
        refine zg_Mo_d hx hb hts hown X zd_Mo_access_102 ?_
        refine lv_iload_n hx hb zd_Mo_access_105 rfl (lv_at hl 2 rfl) ?_
        obtain ⟨hin, hf⟩ := zz_ck_some hf
        refine za_Mo_d hx hb X hin zd_Mo_access_106 ?_
        refine lv_aload_n hx hb zd_Mo_access_107 rfl (lv_at hl 0 rfl) ?_
        refine lv_iload_n hx hb zd_Mo_access_108 rfl (lv_at hl 3 rfl) ?_
        obtain ⟨r9, h14, hf⟩ := Option.bind_eq_some_iff.mp hf
        refine zr_cvP (As := [.int x3]) (rest := [.int (u2 1 x2.toNatClampNeg), .ref (q 0)]) (q0 := 0) (ci := 9) hx hb hml hown hts hl.1 X (zk_Mo_word l D q cI cZ h14) zkw_Mo_word zl_Mo_119 rfl rfl (Nat.le_of_ble_eq_true rfl) rfl rfl ⟨rfl, rfl⟩ ⟨Nat.le_of_ble_eq_true rfl, Nat.le_of_ble_eq_true rfl⟩ zd_Mo_access_109 (fun H locs X => ?_)
        refine lv_aload_n hx hb zd_Mo_access_112 rfl (lv_at hl 0 rfl) ?_
        refine lv_iload_n hx hb zd_Mo_access_113 rfl (lv_at hl 3 rfl) ?_
        obtain ⟨r10, h13, hf⟩ := Option.bind_eq_some_iff.mp hf
        refine zr_cvP (As := [.int x3]) (rest := [.int r9, .int (u2 1 x2.toNatClampNeg), .ref (q 0)]) (q0 := 0) (ci := 9) hx hb hml hown hts hl.1 X (zk_Mo_wordKnown l D q cI cZ h13) zkw_Mo_wordKnown zl_Mo_122 rfl rfl (Nat.le_of_ble_eq_true rfl) rfl rfl ⟨rfl, rfl⟩ ⟨Nat.le_of_ble_eq_true rfl, Nat.le_of_ble_eq_true rfl⟩ zd_Mo_access_114 (fun H locs X => ?_)
        obtain ⟨u11, h12, hf⟩ := Option.bind_eq_some_iff.mp hf
        refine zr_cvV (As := [.int (u2 1 x2.toNatClampNeg), .int r9, .int r10]) (rest := []) (q0 := 0) (ci := 9) hx hb hml hown hts hl.1 X (zk_Mo_put l D q cI cZ h12) zkw_Mo_put zl_Mo_98 rfl rfl (Nat.le_of_ble_eq_true rfl) rfl rfl ⟨rfl, rfl⟩ ⟨Nat.le_of_ble_eq_true rfl, Nat.le_of_ble_eq_true rfl⟩ zd_Mo_access_117 (fun H locs X => ?_)
        exact zw_Mo_access_b120 hx hb hml hown hts hr hlocks out u11 x1 x2 x3 x4 _ _ _ X hl hf
    · rw [if_neg g26] at hf
      refine lv_iconst (v := 1) hx hb zd_Mo_access_83 (by decide) ?_
      refine lv_goto (tgt := 88) hx hb zd_Mo_access_84 (by decide) ?_
      refine lv_iload_n hx hb zd_Mo_access_88 rfl (lv_at hl 3 rfl) ?_
      refine lv_iload hx hb zd_Mo_access_89 (lv_at hl 4 rfl) ?_
      obtain ⟨u17, h25, hf⟩ := Option.bind_eq_some_iff.mp hf
      refine zr_cvV (As := [.int (1 : Int32), .int x3, .int x4]) (rest := []) (q0 := 0) (ci := 9) hx hb hml hown hts hl.1 X (zk_Mo_closed l D q cI cZ h25) zkw_Mo_closed zl_Mo_116 rfl rfl (Nat.le_of_ble_eq_true rfl) rfl rfl ⟨rfl, rfl⟩ ⟨Nat.le_of_ble_eq_true rfl, Nat.le_of_ble_eq_true rfl⟩ zd_Mo_access_91 (fun H locs X => ?_)
      refine lv_iload_n hx hb zd_Mo_access_94 rfl (lv_at hl 1 rfl) ?_
      refine lv_bipush (v := 9) hx hb zd_Mo_access_95 (by decide) ?_
      refine lv_icmp_ne (tgt := 120) hx hb zd_Mo_access_97 (by decide) (fun g24 => ?_) (fun g24 => ?_)
      · rw [if_neg g24] at hf
        exact zw_Mo_access_b120 hx hb hml hown hts hr hlocks out u17 x1 x2 x3 x4 _ _ _ X hl hf
      · rw [if_pos g24] at hf
        refine lv_aload_n hx hb zd_Mo_access_100 rfl (lv_at hl 0 rfl) ?_
        refine lv_aload_n hx hb zd_Mo_access_101 rfl (lv_at hl 0 rfl) ?_
        refine zg_Mo_d hx hb hts hown X zd_Mo_access_102 ?_
        refine lv_iload_n hx hb zd_Mo_access_105 rfl (lv_at hl 2 rfl) ?_
        obtain ⟨hin, hf⟩ := zz_ck_some hf
        refine za_Mo_d hx hb X hin zd_Mo_access_106 ?_
        refine lv_aload_n hx hb zd_Mo_access_107 rfl (lv_at hl 0 rfl) ?_
        refine lv_iload_n hx hb zd_Mo_access_108 rfl (lv_at hl 3 rfl) ?_
        obtain ⟨r18, h23, hf⟩ := Option.bind_eq_some_iff.mp hf
        refine zr_cvP (As := [.int x3]) (rest := [.int (u17 1 x2.toNatClampNeg), .ref (q 0)]) (q0 := 0) (ci := 9) hx hb hml hown hts hl.1 X (zk_Mo_word l D q cI cZ h23) zkw_Mo_word zl_Mo_119 rfl rfl (Nat.le_of_ble_eq_true rfl) rfl rfl ⟨rfl, rfl⟩ ⟨Nat.le_of_ble_eq_true rfl, Nat.le_of_ble_eq_true rfl⟩ zd_Mo_access_109 (fun H locs X => ?_)
        refine lv_aload_n hx hb zd_Mo_access_112 rfl (lv_at hl 0 rfl) ?_
        refine lv_iload_n hx hb zd_Mo_access_113 rfl (lv_at hl 3 rfl) ?_
        obtain ⟨r19, h22, hf⟩ := Option.bind_eq_some_iff.mp hf
        refine zr_cvP (As := [.int x3]) (rest := [.int r18, .int (u17 1 x2.toNatClampNeg), .ref (q 0)]) (q0 := 0) (ci := 9) hx hb hml hown hts hl.1 X (zk_Mo_wordKnown l D q cI cZ h22) zkw_Mo_wordKnown zl_Mo_122 rfl rfl (Nat.le_of_ble_eq_true rfl) rfl rfl ⟨rfl, rfl⟩ ⟨Nat.le_of_ble_eq_true rfl, Nat.le_of_ble_eq_true rfl⟩ zd_Mo_access_114 (fun H locs X => ?_)
        obtain ⟨u20, h21, hf⟩ := Option.bind_eq_some_iff.mp hf
        refine zr_cvV (As := [.int (u17 1 x2.toNatClampNeg), .int r18, .int r19]) (rest := []) (q0 := 0) (ci := 9) hx hb hml hown hts hl.1 X (zk_Mo_put l D q cI cZ h21) zkw_Mo_put zl_Mo_98 rfl rfl (Nat.le_of_ble_eq_true rfl) rfl rfl ⟨rfl, rfl⟩ ⟨Nat.le_of_ble_eq_true rfl, Nat.le_of_ble_eq_true rfl⟩ zd_Mo_access_117 (fun H locs X => ?_)
        exact zw_Mo_access_b120 hx hb hml hown hts hr hlocks out u20 x1 x2 x3 x4 _ _ _ X hl hf
  · rw [if_pos g27] at hf
    refine lv_iconst (v := 0) hx hb zd_Mo_access_74 (by decide) ?_
    obtain ⟨hz, hf⟩ := zz_kz_some hf
    exact zr_zret hx hb hr hlocks X hz (Option.some.inj hf) zd_Mo_access_75

set_option maxRecDepth 100000 in
set_option maxHeartbeats 4000000 in
theorem zw_Mo_access_b31 {p : Program} {l : Launch} {e : Env} {s : State} {m : MethodId} {args : Array Value} {below : List Frame} {meth : Method} {c : Code} {D : va_G} {q : Nat → Nat} {cI cZ : ClassId} {A : Nat → Prop} (hx : p.tables.exec = Jvm.exec) (hb : c.code = zc_Mo_access) (hml : c.maxLocals = 6) (hown : s.vm.findClass zR_Mo = some m.cls) (hts : ∀ w ∈ zz_WS, w.before args s = true) (hr : meth.sig.returnType = (some .boolean)) (hlocks : meth.locks = false) (out : (Int32 × St)) : ∀ (σ : St) (x1 x2 x3 : Int32) (H : Heap) (locs : List Loc) (ls : Array Slot), zz_X D vwCl (zz_tys cI cZ) A s H locs ((wM q cI cZ) σ) → lv_has ls 6 [(0, .ref (q 0)), (1, .int x1), (2, .int x2), (3, .int x3)] → zf_Mo_access_b31 σ x1 x2 x3 = some out → W p l e zm_Mo_access s m args below meth c H locs 0 0 (MQ below (zq_I D vwCl (zz_tys cI cZ) (wM q cI cZ) A out) args s 0 0 A) (F0 m 31 ls []) := by
  intro σ x1 x2 x3 H locs ls X hl hf
  rw [zf_Mo_access_b31] at hf
  refine lv_iconst (v := 4) hx hb zd_Mo_access_31 (by decide) ?_
  refine lv_goto (tgt := 36) hx hb zd_Mo_access_32 (by decide) ?_
  refine lv_istore (lv' := [(4, .int (4 : Int32)), (0, .ref (q 0)), (1, .int x1), (2, .int x2), (3, .int x3)]) hx hb zd_Mo_access_36 hl (by decide) rfl (fun ls hl => ?_)
  refine lv_aload_n hx hb zd_Mo_access_38 rfl (lv_at hl 1 rfl) ?_
  refine zg_Mo_sure hx hb hts hown X zd_Mo_access_39 ?_
  refine lv_aload_n hx hb zd_Mo_access_42 rfl (lv_at hl 1 rfl) ?_
  refine zg_Mo_a hx hb hts hown X zd_Mo_access_43 ?_
  refine lv_iload_n hx hb zd_Mo_access_46 rfl (lv_at hl 3 rfl) ?_
  obtain ⟨hin, hf⟩ := zz_ck_some hf
  refine za_Mo_a hx hb X hin zd_Mo_access_47 ?_
  obtain ⟨hin, hf⟩ := zz_ck_some hf
  refine za_Mo_sure hx hb X hin zd_Mo_access_48 ?_
  refine lv_bipush (v := 15) hx hb zd_Mo_access_49 (by decide) ?_
  refine lv_icmp_eq (tgt := 60) hx hb zd_Mo_access_51 (by decide) (fun g31 => ?_) (fun g31 => ?_)
  · rw [if_pos g31] at hf
    exact zw_Mo_access_b60 hx hb hml hown hts hr hlocks out σ x1 x2 x3 (4 : Int32) _ _ _ X (lv_sub hl [1, 2, 3, 4, 0] rfl) hf
  · rw [if_neg g31] at hf
    refine lv_aload_n hx hb zd_Mo_access_54 rfl (lv_at hl 1 rfl) ?_
    refine lv_iconst (v := 4) hx hb zd_Mo_access_55 (by decide) ?_
    refine lv_iload_n hx hb zd_Mo_access_56 rfl (lv_at hl 4 rfl) ?_
    obtain ⟨u29, h30, hf⟩ := Option.bind_eq_some_iff.mp hf
    refine zr_cvV (As := [.int (4 : Int32), .int x3]) (rest := []) (q0 := 0) (ci := 9) hx hb hml hown hts hl.1 X (zk_Mo_note l D q cI cZ h30) zkw_Mo_note zl_Mo_112 rfl rfl (Nat.le_of_ble_eq_true rfl) rfl rfl ⟨rfl, rfl⟩ ⟨Nat.le_of_ble_eq_true rfl, Nat.le_of_ble_eq_true rfl⟩ zd_Mo_access_57 (fun H locs X => ?_)
    exact zw_Mo_access_b60 hx hb hml hown hts hr hlocks out u29 x1 x2 x3 (4 : Int32) _ _ _ X (lv_sub hl [1, 2, 3, 4, 0] rfl) hf

set_option maxRecDepth 100000 in
set_option maxHeartbeats 4000000 in
theorem zk_Mo_access (l : Launch) (D : va_G) (q : Nat → Nat) (cI cZ : ClassId) {σ : St} {x1 x2 : Int32} {out : (Int32 × St)} (hf : zf_Mo_access σ x1 x2 = some out) : zI l D vwCl (zz_tys cI cZ) (wM q cI cZ) zy_Mo_access (.code zy_Mo_access zc_Mo_access 6 (some .boolean) :: zz_WS) zm_Mo_access [.ref (q 0), .int x1, .int x2] σ out := by
  refine zI_of (by decide +kernel) (Nat.le_of_ble_eq_true rfl) (fun p e s m below meth c A ls hx hb hml hown hts hr hlocks X hl => ?_)
  have hl : lv_has ls 6 [(0, .ref (q 0)), (1, .int x1), (2, .int x2)] := hl
  unfold zf_Mo_access at hf
  refine lv_aload_n hx hb zd_Mo_access_0 rfl (lv_at hl 0 rfl) ?_
  refine zg_Mo_register hx hb hts hown X zd_Mo_access_1 ?_
  refine lv_aload_n hx hb zd_Mo_access_4 rfl (lv_at hl 0 rfl) ?_
  refine zg_Mo_a hx hb hts hown X zd_Mo_access_5 ?_
  refine lv_iload_n hx hb zd_Mo_access_8 rfl (lv_at hl 2 rfl) ?_
  obtain ⟨hin, hf⟩ := zz_ck_some hf
  refine za_Mo_a hx hb X hin zd_Mo_access_9 ?_
  obtain ⟨hin, hf⟩ := zz_ck_some hf
  refine za_Mo_register hx hb X hin zd_Mo_access_10 ?_
  refine lv_aload_n hx hb zd_Mo_access_11 rfl (lv_at hl 0 rfl) ?_
  refine zg_Mo_n hx hb hts hown X zd_Mo_access_12 ?_
  refine lv_iload_n hx hb zd_Mo_access_15 rfl (lv_at hl 2 rfl) ?_
  obtain ⟨hin, hf⟩ := zz_ck_some hf
  refine za_Mo_n hx hb X hin zd_Mo_access_16 ?_
  refine lv_iadd hx hb zd_Mo_access_17 ?_
  refine lv_istore_n (lv' := [(3, .int ((σ 8 (σ 2 x2.toNatClampNeg).toNatClampNeg) + (σ 4 x2.toNatClampNeg))), (0, .ref (q 0)), (1, .int x1), (2, .int x2)]) hx hb zd_Mo_access_18 rfl hl (by decide) rfl (fun ls hl => ?_)
  refine lv_iload_n hx hb zd_Mo_access_19 rfl (lv_at hl 2 rfl) ?_
  refine lv_bipush (v := 9) hx hb zd_Mo_access_20 (by decide) ?_
  refine lv_icmp_eq (tgt := 31) hx hb zd_Mo_access_22 (by decide) (fun g36 => ?_) (fun g36 => ?_)
  · rw [if_pos g36] at hf
    exact zw_Mo_access_b31 hx hb hml hown hts hr hlocks out σ x1 x2 ((σ 8 (σ 2 x2.toNatClampNeg).toNatClampNeg) + (σ 4 x2.toNatClampNeg)) _ _ _ X (lv_sub hl [1, 2, 3, 0] rfl) hf
  · rw [if_neg g36] at hf
    refine lv_iload_n hx hb zd_Mo_access_25 rfl (lv_at hl 2 rfl) ?_
    refine lv_bipush (v := 11) hx hb zd_Mo_access_26 (by decide) ?_
    refine lv_icmp_ne (tgt := 35) hx hb zd_Mo_access_28 (by decide) (fun g35 => ?_) (fun g35 => ?_)
    · rw [if_neg g35] at hf
      refine lv_iconst (v := 1) hx hb zd_Mo_access_35 (by decide) ?_
      refine lv_istore (lv' := [(4, .int (1 : Int32)), (3, .int ((σ 8 (σ 2 x2.toNatClampNeg).toNatClampNeg) + (σ 4 x2.toNatClampNeg))), (0, .ref (q 0)), (1, .int x1), (2, .int x2)]) hx hb zd_Mo_access_36 hl (by decide) rfl (fun ls hl => ?_)
      refine lv_aload_n hx hb zd_Mo_access_38 rfl (lv_at hl 2 rfl) ?_
      refine zg_Mo_sure hx hb hts hown X zd_Mo_access_39 ?_
      refine lv_aload_n hx hb zd_Mo_access_42 rfl (lv_at hl 2 rfl) ?_
      refine zg_Mo_a hx hb hts hown X zd_Mo_access_43 ?_
      refine lv_iload_n hx hb zd_Mo_access_46 rfl (lv_at hl 4 rfl) ?_
      obtain ⟨hin, hf⟩ := zz_ck_some hf
      refine za_Mo_a hx hb X hin zd_Mo_access_47 ?_
      obtain ⟨hin, hf⟩ := zz_ck_some hf
      refine za_Mo_sure hx hb X hin zd_Mo_access_48 ?_
      refine lv_bipush (v := 15) hx hb zd_Mo_access_49 (by decide) ?_
      refine lv_icmp_eq (tgt := 60) hx hb zd_Mo_access_51 (by decide) (fun g34 => ?_) (fun g34 => ?_)
      · rw [if_pos g34] at hf
        exact zw_Mo_access_b60 hx hb hml hown hts hr hlocks out σ x1 x2 ((σ 8 (σ 2 x2.toNatClampNeg).toNatClampNeg) + (σ 4 x2.toNatClampNeg)) (1 : Int32) _ _ _ X (lv_sub hl [2, 3, 4, 1, 0] rfl) hf
      · rw [if_neg g34] at hf
        refine lv_aload_n hx hb zd_Mo_access_54 rfl (lv_at hl 2 rfl) ?_
        refine lv_iconst (v := 4) hx hb zd_Mo_access_55 (by decide) ?_
        refine lv_iload_n hx hb zd_Mo_access_56 rfl (lv_at hl 1 rfl) ?_
        obtain ⟨u32, h33, hf⟩ := Option.bind_eq_some_iff.mp hf
        refine zr_cvV (As := [.int (4 : Int32), .int ((σ 8 (σ 2 x2.toNatClampNeg).toNatClampNeg) + (σ 4 x2.toNatClampNeg))]) (rest := []) (q0 := 0) (ci := 9) hx hb hml hown hts hl.1 X (zk_Mo_note l D q cI cZ h33) zkw_Mo_note zl_Mo_112 rfl rfl (Nat.le_of_ble_eq_true rfl) rfl rfl ⟨rfl, rfl⟩ ⟨Nat.le_of_ble_eq_true rfl, Nat.le_of_ble_eq_true rfl⟩ zd_Mo_access_57 (fun H locs X => ?_)
        exact zw_Mo_access_b60 hx hb hml hown hts hr hlocks out u32 x1 x2 ((σ 8 (σ 2 x2.toNatClampNeg).toNatClampNeg) + (σ 4 x2.toNatClampNeg)) (1 : Int32) _ _ _ X (lv_sub hl [2, 3, 4, 1, 0] rfl) hf
    · rw [if_pos g35] at hf
      exact zw_Mo_access_b31 hx hb hml hown hts hr hlocks out σ x1 x2 ((σ 8 (σ 2 x2.toNatClampNeg).toNatClampNeg) + (σ 4 x2.toNatClampNeg)) _ _ _ X (lv_sub hl [1, 2, 3, 0] rfl) hf

set_option maxRecDepth 100000 in
set_option maxHeartbeats 4000000 in
theorem zk_Mo_room (l : Launch) (D : va_G) (q : Nat → Nat) (cI cZ : ClassId) {σ : St} {x0 : Int32} {out : Int32} (hf : zf_Mo_room x0 = some out) : zI l D vwCl (zz_tys cI cZ) (wM q cI cZ) zy_Mo_room (.code zy_Mo_room zc_Mo_room 1 (some .int) :: zz_WS) zm_Mo_room [.int x0] σ (out, σ) := by
  refine zI_of (by decide +kernel) (Nat.le_of_ble_eq_true rfl) (fun p e s m below meth c A ls hx hb hml hown hts hr hlocks X hl => ?_)
  have hl : lv_has ls 1 [(0, .int x0)] := hl
  unfold zf_Mo_room at hf
  refine lv_iload_n hx hb zd_Mo_room_0 rfl (lv_at hl 0 rfl) ?_
  refine lv_iconst (v := 3) hx hb zd_Mo_room_1 (by decide) ?_
  refine lv_iadd hx hb zd_Mo_room_2 ?_
  refine lv_iconst (v := 4) hx hb zd_Mo_room_3 (by decide) ?_
  obtain ⟨hne, hf⟩ := zz_kn_some hf
  refine lv_idiv hx hb zd_Mo_room_4 hne ?_
  refine lv_iconst (v := 4) hx hb zd_Mo_room_5 (by decide) ?_
  refine lv_imul hx hb zd_Mo_room_6 ?_
  exact zr_iretP hx hb hr hlocks X (Option.some.inj hf) zd_Mo_room_7

set_option maxRecDepth 100000 in
set_option maxHeartbeats 4000000 in
theorem zw_Mo_free_L2 {p : Program} {l : Launch} {e : Env} {s : State} {m : MethodId} {args : Array Value} {below : List Frame} {meth : Method} {c : Code} {D : va_G} {q : Nat → Nat} {cI cZ : ClassId} {A : Nat → Prop} (hx : p.tables.exec = Jvm.exec) (hb : c.code = zc_Mo_free) (hml : c.maxLocals = 4) (hown : s.vm.findClass zR_Mo = some m.cls) (hts : ∀ w ∈ zz_WS, w.before args s = true) (hr : meth.sig.returnType = (some .boolean)) (hlocks : meth.locks = false) (out : Int32) (σ : St) (kx : Option Int32) (hkx : ∀ (H : Heap) (locs : List Loc) (ls : Array Slot), zz_X D vwCl (zz_tys cI cZ) A s H locs ((wM q cI cZ) σ) → lv_has ls 4 [] → kx = some out → W p l e zm_Mo_free s m args below meth c H locs 0 0 (MQ below (zq_I D vwCl (zz_tys cI cZ) (wM q cI cZ) A (out, σ)) args s 0 0 A) (F0 m 61 ls [])) : ∀ (n : Nat) (x1 x2 x3 : Int32) (H : Heap) (locs : List Loc) (ls : Array Slot), zz_X D vwCl (zz_tys cI cZ) A s H locs ((wM q cI cZ) σ) → lv_has ls 4 [(0, .ref (q 0)), (1, .int x1), (2, .int x2), (3, .int x3)] → zf_Mo_free_L2 σ kx n x1 x2 x3 = some out → W p l e zm_Mo_free s m args below meth c H locs 0 0 (MQ below (zq_I D vwCl (zz_tys cI cZ) (wM q cI cZ) A (out, σ)) args s 0 0 A) (F0 m 2 ls []) := by
  intro n
  induction n with
  | zero =>
    intro x1 x2 x3 H locs ls X hl hf
    exact absurd hf (by simp [zf_Mo_free_L2])
  | succ n ih =>
    intro x1 x2 x3 H locs ls X hl hf
    rw [zf_Mo_free_L2] at hf
    refine lv_iload_n hx hb zd_Mo_free_2 rfl (lv_at hl 3 rfl) ?_
    refine lv_aload_n hx hb zd_Mo_free_3 rfl (lv_at hl 0 rfl) ?_
    refine zg_Mo_blocks hx hb hts hown X zd_Mo_free_4 ?_
    refine lv_icmp_ge (tgt := 61) hx hb zd_Mo_free_7 (by decide) (fun g7 => ?_) (fun g7 => ?_)
    · rw [if_pos g7] at hf
      exact hkx _ _ _ X (lv_sub hl [] rfl) hf
    · rw [if_neg g7] at hf
      refine lv_iload_n hx hb zd_Mo_free_10 rfl (lv_at hl 1 rfl) ?_
      refine lv_iconst (v := 4) hx hb zd_Mo_free_11 (by decide) ?_
      refine lv_isub hx hb zd_Mo_free_12 ?_
      refine lv_aload_n hx hb zd_Mo_free_13 rfl (lv_at hl 0 rfl) ?_
      refine zg_Mo_address hx hb hts hown X zd_Mo_free_14 ?_
      refine lv_iload_n hx hb zd_Mo_free_17 rfl (lv_at hl 3 rfl) ?_
      obtain ⟨hin, hf⟩ := zz_ck_some hf
      refine za_Mo_address hx hb X hin zd_Mo_free_18 ?_
      refine lv_aload_n hx hb zd_Mo_free_19 rfl (lv_at hl 0 rfl) ?_
      refine zg_Mo_size hx hb hts hown X zd_Mo_free_20 ?_
      refine lv_iload_n hx hb zd_Mo_free_23 rfl (lv_at hl 3 rfl) ?_
      obtain ⟨hin, hf⟩ := zz_ck_some hf
      refine za_Mo_size hx hb X hin zd_Mo_free_24 ?_
      obtain ⟨r1, h6, hf⟩ := Option.bind_eq_some_iff.mp hf
      refine zr_csP (As := [.int (σ 12 x3.toNatClampNeg)]) (rest := [.int (σ 11 x3.toNatClampNeg), .int (x1 - (4 : Int32))]) hx hb hml hown hts hl.1 X (zk_Mo_room l D q cI cZ h6) zkw_Mo_room zl_Mo_128 rfl rfl (Nat.le_of_ble_eq_true rfl) ⟨rfl, rfl⟩ ⟨Nat.le_of_ble_eq_true rfl, Nat.le_of_ble_eq_true rfl⟩ zd_Mo_free_25 (fun H locs X => ?_)
      refine lv_iadd hx hb zd_Mo_free_28 ?_
      refine lv_iconst (v := 4) hx hb zd_Mo_free_29 (by decide) ?_
      refine lv_iadd hx hb zd_Mo_free_30 ?_
      refine lv_icmp_ge (tgt := 55) hx hb zd_Mo_free_31 (by decide) (fun g5 => ?_) (fun g5 => ?_)
      · rw [if_pos g5] at hf
        refine lv_iinc (v := (x3 + (1 : Int32))) (lv' := [(3, .int (x3 + (1 : Int32))), (0, .ref (q 0)), (1, .int x1), (2, .int x2)]) hx hb zd_Mo_free_55 hl (k := 3) rfl rfl (by decide) rfl (fun ls hl => ?_)
        refine lv_goto (tgt := 2) hx hb zd_Mo_free_58 (by decide) ?_
        exact ih x1 x2 (x3 + (1 : Int32)) _ _ _ X (lv_sub hl [1, 2, 3, 0] rfl) hf
      · rw [if_neg g5] at hf
        refine lv_aload_n hx hb zd_Mo_free_34 rfl (lv_at hl 0 rfl) ?_
        refine zg_Mo_address hx hb hts hown X zd_Mo_free_35 ?_
        refine lv_iload_n hx hb zd_Mo_free_38 rfl (lv_at hl 3 rfl) ?_
        obtain ⟨hin, hf⟩ := zz_ck_some hf
        refine za_Mo_address hx hb X hin zd_Mo_free_39 ?_
        refine lv_iconst (v := 4) hx hb zd_Mo_free_40 (by decide) ?_
        refine lv_isub hx hb zd_Mo_free_41 ?_
        refine lv_iload_n hx hb zd_Mo_free_42 rfl (lv_at hl 1 rfl) ?_
        refine lv_iload_n hx hb zd_Mo_free_43 rfl (lv_at hl 2 rfl) ?_
        obtain ⟨r2, h4, hf⟩ := Option.bind_eq_some_iff.mp hf
        refine zr_csP (As := [.int x2]) (rest := [.int x1, .int ((σ 11 x3.toNatClampNeg) - (4 : Int32))]) hx hb hml hown hts hl.1 X (zk_Mo_room l D q cI cZ h4) zkw_Mo_room zl_Mo_128 rfl rfl (Nat.le_of_ble_eq_true rfl) ⟨rfl, rfl⟩ ⟨Nat.le_of_ble_eq_true rfl, Nat.le_of_ble_eq_true rfl⟩ zd_Mo_free_44 (fun H locs X => ?_)
        refine lv_iadd hx hb zd_Mo_free_47 ?_
        refine lv_iconst (v := 4) hx hb zd_Mo_free_48 (by decide) ?_
        refine lv_iadd hx hb zd_Mo_free_49 ?_
        refine lv_icmp_ge (tgt := 55) hx hb zd_Mo_free_50 (by decide) (fun g3 => ?_) (fun g3 => ?_)
        · rw [if_pos g3] at hf
          refine lv_iinc (v := (x3 + (1 : Int32))) (lv' := [(3, .int (x3 + (1 : Int32))), (0, .ref (q 0)), (1, .int x1), (2, .int x2)]) hx hb zd_Mo_free_55 hl (k := 3) rfl rfl (by decide) rfl (fun ls hl => ?_)
          refine lv_goto (tgt := 2) hx hb zd_Mo_free_58 (by decide) ?_
          exact ih x1 x2 (x3 + (1 : Int32)) _ _ _ X (lv_sub hl [1, 2, 3, 0] rfl) hf
        · rw [if_neg g3] at hf
          refine lv_iconst (v := 0) hx hb zd_Mo_free_53 (by decide) ?_
          obtain ⟨hz, hf⟩ := zz_kz_some hf
          exact zr_zretP hx hb hr hlocks X hz (Option.some.inj hf) zd_Mo_free_54

set_option maxRecDepth 100000 in
set_option maxHeartbeats 4000000 in
theorem zk_Mo_free (l : Launch) (D : va_G) (q : Nat → Nat) (cI cZ : ClassId) {σ : St} {x1 x2 : Int32} {out : Int32} (hf : zf_Mo_free σ x1 x2 = some out) : zI l D vwCl (zz_tys cI cZ) (wM q cI cZ) zy_Mo_free (.code zy_Mo_free zc_Mo_free 4 (some .boolean) :: zz_WS) zm_Mo_free [.ref (q 0), .int x1, .int x2] σ (out, σ) := by
  refine zI_of (by decide +kernel) (Nat.le_of_ble_eq_true rfl) (fun p e s m below meth c A ls hx hb hml hown hts hr hlocks X hl => ?_)
  have hl : lv_has ls 4 [(0, .ref (q 0)), (1, .int x1), (2, .int x2)] := hl
  unfold zf_Mo_free at hf
  refine lv_iconst (v := 0) hx hb zd_Mo_free_0 (by decide) ?_
  refine lv_istore_n (lv' := [(3, .int (0 : Int32)), (0, .ref (q 0)), (1, .int x1), (2, .int x2)]) hx hb zd_Mo_free_1 rfl hl (by decide) rfl (fun ls hl => ?_)
  refine zw_Mo_free_L2 hx hb hml hown hts hr hlocks out σ _ (fun  H locs ls X hl hf => ?_) 300 x1 x2 (0 : Int32) _ _ _ X (lv_sub hl [1, 2, 3, 0] rfl) hf
  refine lv_iconst (v := 1) hx hb zd_Mo_free_61 (by decide) ?_
  obtain ⟨hz, hf⟩ := zz_kz_some hf
  exact zr_zretP hx hb hr hlocks X hz (Option.some.inj hf) zd_Mo_free_62

set_option maxRecDepth 100000 in
set_option maxHeartbeats 4000000 in
theorem zw_Mo_mark_L3 {p : Program} {l : Launch} {e : Env} {s : State} {m : MethodId} {args : Array Value} {below : List Frame} {meth : Method} {c : Code} {D : va_G} {q : Nat → Nat} {cI cZ : ClassId} {A : Nat → Prop} (hx : p.tables.exec = Jvm.exec) (hb : c.code = zc_Mo_mark) (hml : c.maxLocals = 5) (hown : s.vm.findClass zR_Mo = some m.cls) (hts : ∀ w ∈ zz_WS, w.before args s = true) (hr : meth.sig.returnType = none) (hlocks : meth.locks = false) (out : St) (kx : St → Option St) (hkx : ∀ (σ : St) (H : Heap) (locs : List Loc) (ls : Array Slot), zz_X D vwCl (zz_tys cI cZ) A s H locs ((wM q cI cZ) σ) → lv_has ls 5 [] → kx σ = some out → W p l e zm_Mo_mark s m args below meth c H locs 0 0 (MQ below (zq_V D vwCl (zz_tys cI cZ) (wM q cI cZ) A out) args s 0 0 A) (F0 m 33 ls [])) : ∀ (n : Nat) (σ : St) (x1 x2 x3 x4 : Int32) (H : Heap) (locs : List Loc) (ls : Array Slot), zz_X D vwCl (zz_tys cI cZ) A s H locs ((wM q cI cZ) σ) → lv_has ls 5 [(0, .ref (q 0)), (1, .int x1), (2, .int x2), (3, .int x3), (4, .int x4)] → zf_Mo_mark_L3 kx n σ x1 x2 x3 x4 = some out → W p l e zm_Mo_mark s m args below meth c H locs 0 0 (MQ below (zq_V D vwCl (zz_tys cI cZ) (wM q cI cZ) A out) args s 0 0 A) (F0 m 3 ls []) := by
  intro n
  induction n with
  | zero =>
    intro σ x1 x2 x3 x4 H locs ls X hl hf
    exact absurd hf (by simp [zf_Mo_mark_L3])
  | succ n ih =>
    intro σ x1 x2 x3 x4 H locs ls X hl hf
    rw [zf_Mo_mark_L3] at hf
    refine lv_iload hx hb zd_Mo_mark_3 (lv_at hl 4 rfl) ?_
    refine lv_iload_n hx hb zd_Mo_mark_5 rfl (lv_at hl 1 rfl) ?_
    refine lv_iload_n hx hb zd_Mo_mark_6 rfl (lv_at hl 2 rfl) ?_
    refine lv_iadd hx hb zd_Mo_mark_7 ?_
    refine lv_icmp_ge (tgt := 33) hx hb zd_Mo_mark_8 (by decide) (fun g1 => ?_) (fun g1 => ?_)
    · rw [if_pos g1] at hf
      exact hkx σ _ _ _ X (lv_sub hl [] rfl) hf
    · rw [if_neg g1] at hf
      refine lv_aload_n hx hb zd_Mo_mark_11 rfl (lv_at hl 0 rfl) ?_
      refine zg_Mo_open hx hb hts hown X zd_Mo_mark_12 ?_
      refine lv_iload hx hb zd_Mo_mark_15 (lv_at hl 4 rfl) ?_
      refine lv_iload_n hx hb zd_Mo_mark_17 rfl (lv_at hl 3 rfl) ?_
      obtain ⟨hin, hf⟩ := zz_ck_some hf
      refine zs_Mo_open hx hb X hin zd_Mo_mark_18 (fun H locs X => ?_)
      refine lv_aload_n hx hb zd_Mo_mark_19 rfl (lv_at hl 0 rfl) ?_
      refine zg_Mo_known hx hb hts hown X zd_Mo_mark_20 ?_
      refine lv_iload hx hb zd_Mo_mark_23 (lv_at hl 4 rfl) ?_
      refine lv_iconst (v := 0) hx hb zd_Mo_mark_25 (by decide) ?_
      obtain ⟨hin, hf⟩ := zz_ck_some hf
      refine zs_Mo_known hx hb X hin zd_Mo_mark_26 (fun H locs X => ?_)
      refine lv_iinc (v := (x4 + (1 : Int32))) (lv' := [(4, .int (x4 + (1 : Int32))), (0, .ref (q 0)), (1, .int x1), (2, .int x2), (3, .int x3)]) hx hb zd_Mo_mark_27 hl (k := 4) rfl rfl (by decide) rfl (fun ls hl => ?_)
      refine lv_goto (tgt := 3) hx hb zd_Mo_mark_30 (by decide) ?_
      exact ih (zz_put (zz_put σ 6 x4.toNatClampNeg x3) 7 x4.toNatClampNeg (0 : Int32)) x1 x2 x3 (x4 + (1 : Int32)) _ _ _ X (lv_sub hl [1, 2, 3, 4, 0] rfl) hf

set_option maxRecDepth 100000 in
set_option maxHeartbeats 4000000 in
theorem zk_Mo_mark (l : Launch) (D : va_G) (q : Nat → Nat) (cI cZ : ClassId) {σ : St} {x1 x2 x3 : Int32} {out : St} (hf : zf_Mo_mark σ x1 x2 x3 = some out) : zV l D vwCl (zz_tys cI cZ) (wM q cI cZ) zy_Mo_mark (.code zy_Mo_mark zc_Mo_mark 5 none :: zz_WS) zm_Mo_mark [.ref (q 0), .int x1, .int x2, .int x3] σ out := by
  refine zV_of (by decide +kernel) (Nat.le_of_ble_eq_true rfl) (fun p e s m below meth c A ls hx hb hml hown hts hr hlocks X hl => ?_)
  have hl : lv_has ls 5 [(0, .ref (q 0)), (1, .int x1), (2, .int x2), (3, .int x3)] := hl
  unfold zf_Mo_mark at hf
  refine lv_iload_n hx hb zd_Mo_mark_0 rfl (lv_at hl 1 rfl) ?_
  refine lv_istore (lv' := [(4, .int x1), (0, .ref (q 0)), (1, .int x1), (2, .int x2), (3, .int x3)]) hx hb zd_Mo_mark_1 hl (by decide) rfl (fun ls hl => ?_)
  refine zw_Mo_mark_L3 hx hb hml hown hts hr hlocks out _ (fun s2 H locs ls X hl hf => ?_) 300 σ x1 x2 x3 x1 _ _ _ X (lv_sub hl [1, 2, 3, 4, 0] rfl) hf
  exact zr_vret hx hb hr hlocks X (Option.some.inj hf) zd_Mo_mark_33

set_option maxRecDepth 100000 in
set_option maxHeartbeats 4000000 in
theorem zw_Mo_ask_L24 {p : Program} {l : Launch} {e : Env} {s : State} {m : MethodId} {args : Array Value} {below : List Frame} {meth : Method} {c : Code} {D : va_G} {q : Nat → Nat} {cI cZ : ClassId} {A : Nat → Prop} (hx : p.tables.exec = Jvm.exec) (hb : c.code = zc_Mo_ask) (hml : c.maxLocals = 3) (hown : s.vm.findClass zR_Mo = some m.cls) (hts : ∀ w ∈ zz_WS, w.before args s = true) (hr : meth.sig.returnType = (some .int)) (hlocks : meth.locks = false) (out : (Int32 × St)) (kx : St → Int32 → Int32 → Option (Int32 × St)) (hkx : ∀ (σ : St) (x1 x2 : Int32) (H : Heap) (locs : List Loc) (ls : Array Slot), zz_X D vwCl (zz_tys cI cZ) A s H locs ((wM q cI cZ) σ) → lv_has ls 3 [(0, .ref (q 0)), (1, .int x1), (2, .int x2)] → kx σ x1 x2 = some out → W p l e zm_Mo_ask s m args below meth c H locs 0 0 (MQ below (zq_I D vwCl (zz_tys cI cZ) (wM q cI cZ) A out) args s 0 0 A) (F0 m 51 ls [])) : ∀ (n : Nat) (σ : St) (x1 x2 : Int32) (H : Heap) (locs : List Loc) (ls : Array Slot), zz_X D vwCl (zz_tys cI cZ) A s H locs ((wM q cI cZ) σ) → lv_has ls 3 [(0, .ref (q 0)), (1, .int x1), (2, .int x2)] → zf_Mo_ask_L24 kx n σ x1 x2 = some out → W p l e zm_Mo_ask s m args below meth c H locs 0 0 (MQ below (zq_I D vwCl (zz_tys cI cZ) (wM q cI cZ) A out) args s 0 0 A) (F0 m 24 ls []) := by
  intro n
  induction n with
  | zero =>
    intro σ x1 x2 H locs ls X hl hf
    exact absurd hf (by simp [zf_Mo_ask_L24])
  | succ n ih =>
    intro σ x1 x2 H locs ls X hl hf
    rw [zf_Mo_ask_L24] at hf
    refine lv_iload_n hx hb zd_Mo_ask_24 rfl (lv_at hl 2 rfl) ?_
    refine lv_iload_n hx hb zd_Mo_ask_25 rfl (lv_at hl 1 rfl) ?_
    obtain ⟨r2, h7, hf⟩ := Option.bind_eq_some_iff.mp hf
    refine zr_csP (As := [.int x1]) (rest := [.int x2]) hx hb hml hown hts hl.1 X (zk_Mo_room l D q cI cZ h7) zkw_Mo_room zl_Mo_128 rfl rfl (Nat.le_of_ble_eq_true rfl) ⟨rfl, rfl⟩ ⟨Nat.le_of_ble_eq_true rfl, Nat.le_of_ble_eq_true rfl⟩ zd_Mo_ask_26 (fun H locs X => ?_)
    refine lv_iadd hx hb zd_Mo_ask_29 ?_
    refine lv_sipush (v := 220) hx hb zd_Mo_ask_30 (by decide) ?_
    refine lv_icmp_gt (tgt := 51) hx hb zd_Mo_ask_33 (by decide) (fun g6 => ?_) (fun g6 => ?_)
    · rw [if_pos g6] at hf
      exact hkx σ x1 x2 _ _ _ X hl hf
    · rw [if_neg g6] at hf
      refine lv_aload_n hx hb zd_Mo_ask_36 rfl (lv_at hl 0 rfl) ?_
      refine lv_iload_n hx hb zd_Mo_ask_37 rfl (lv_at hl 2 rfl) ?_
      refine lv_iload_n hx hb zd_Mo_ask_38 rfl (lv_at hl 1 rfl) ?_
      obtain ⟨r3, h5, hf⟩ := Option.bind_eq_some_iff.mp hf
      refine zr_cvP (As := [.int x2, .int x1]) (rest := []) (q0 := 0) (ci := 9) hx hb hml hown hts hl.1 X (zk_Mo_free l D q cI cZ h5) zkw_Mo_free zl_Mo_131 rfl rfl (Nat.le_of_ble_eq_true rfl) rfl rfl ⟨rfl, rfl⟩ ⟨Nat.le_of_ble_eq_true rfl, Nat.le_of_ble_eq_true rfl⟩ zd_Mo_ask_39 (fun H locs X => ?_)
      refine lv_if_ne (tgt := 51) hx hb zd_Mo_ask_42 (by decide) (fun g4 => ?_) (fun g4 => ?_)
      · rw [if_neg g4] at hf
        exact hkx σ x1 x2 _ _ _ X hl hf
      · rw [if_pos g4] at hf
        refine lv_iinc (v := (x2 + (4 : Int32))) (lv' := [(2, .int (x2 + (4 : Int32))), (0, .ref (q 0)), (1, .int x1)]) hx hb zd_Mo_ask_45 hl (k := 2) rfl rfl (by decide) rfl (fun ls hl => ?_)
        refine lv_goto (tgt := 24) hx hb zd_Mo_ask_48 (by decide) ?_
        exact ih σ x1 (x2 + (4 : Int32)) _ _ _ X (lv_sub hl [1, 2, 0] rfl) hf

set_option maxRecDepth 100000 in
set_option maxHeartbeats 4000000 in
theorem zk_Mo_ask (l : Launch) (D : va_G) (q : Nat → Nat) (cI cZ : ClassId) {σ : St} {x1 : Int32} {out : (Int32 × St)} (hf : zf_Mo_ask σ x1 = some out) : zI l D vwCl (zz_tys cI cZ) (wM q cI cZ) zy_Mo_ask (.code zy_Mo_ask zc_Mo_ask 3 (some .int) :: zz_WS) zm_Mo_ask [.ref (q 0), .int x1] σ out := by
  refine zI_of (by decide +kernel) (Nat.le_of_ble_eq_true rfl) (fun p e s m below meth c A ls hx hb hml hown hts hr hlocks X hl => ?_)
  have hl : lv_has ls 3 [(0, .ref (q 0)), (1, .int x1)] := hl
  unfold zf_Mo_ask at hf
  refine lv_iload_n hx hb zd_Mo_ask_0 rfl (lv_at hl 1 rfl) ?_
  refine lv_iconst (v := 1) hx hb zd_Mo_ask_1 (by decide) ?_
  refine lv_bipush (v := 48) hx hb zd_Mo_ask_2 (by decide) ?_
  obtain ⟨r1, h16, hf⟩ := Option.bind_eq_some_iff.mp hf
  refine zr_csP (As := [.int x1, .int (1 : Int32), .int (48 : Int32)]) (rest := []) hx hb hml hown hts hl.1 X (zk_Mo_in l D q cI cZ h16) zkw_Mo_in zl_Mo_79 rfl rfl (Nat.le_of_ble_eq_true rfl) ⟨rfl, rfl⟩ ⟨Nat.le_of_ble_eq_true rfl, Nat.le_of_ble_eq_true rfl⟩ zd_Mo_ask_4 (fun H locs X => ?_)
  refine lv_if_eq (tgt := 19) hx hb zd_Mo_ask_7 (by decide) (fun g15 => ?_) (fun g15 => ?_)
  · rw [if_pos g15] at hf
    refine lv_iconst (v := 0) hx hb zd_Mo_ask_19 (by decide) ?_
    exact zr_iret hx hb hr hlocks X (Option.some.inj hf) zd_Mo_ask_20
  · rw [if_neg g15] at hf
    refine lv_aload_n hx hb zd_Mo_ask_10 rfl (lv_at hl 0 rfl) ?_
    refine zg_Mo_blocks hx hb hts hown X zd_Mo_ask_11 ?_
    refine lv_bipush (v := 10) hx hb zd_Mo_ask_14 (by decide) ?_
    refine lv_icmp_ne (tgt := 21) hx hb zd_Mo_ask_16 (by decide) (fun g14 => ?_) (fun g14 => ?_)
    · rw [if_neg g14] at hf
      refine lv_bipush (v := 68) hx hb zd_Mo_ask_21 (by decide) ?_
      refine lv_istore_n (lv' := [(2, .int (68 : Int32)), (0, .ref (q 0)), (1, .int x1)]) hx hb zd_Mo_ask_23 rfl hl (by decide) rfl (fun ls hl => ?_)
      refine zw_Mo_ask_L24 hx hb hml hown hts hr hlocks out _ (fun s8 s8_1 s8_2 H locs ls X hl hf => ?_) 300 σ x1 (68 : Int32) _ _ _ X (lv_sub hl [1, 2, 0] rfl) hf
      refine lv_iload_n hx hb zd_Mo_ask_51 rfl (lv_at hl 2 rfl) ?_
      refine lv_iload_n hx hb zd_Mo_ask_52 rfl (lv_at hl 1 rfl) ?_
      obtain ⟨r9, h13, hf⟩ := Option.bind_eq_some_iff.mp hf
      refine zr_csP (As := [.int s8_1]) (rest := [.int s8_2]) hx hb hml hown hts hl.1 X (zk_Mo_room l D q cI cZ h13) zkw_Mo_room zl_Mo_128 rfl rfl (Nat.le_of_ble_eq_true rfl) ⟨rfl, rfl⟩ ⟨Nat.le_of_ble_eq_true rfl, Nat.le_of_ble_eq_true rfl⟩ zd_Mo_ask_53 (fun H locs X => ?_)
      refine lv_iadd hx hb zd_Mo_ask_56 ?_
      refine lv_sipush (v := 220) hx hb zd_Mo_ask_57 (by decide) ?_
      refine lv_icmp_le (tgt := 65) hx hb zd_Mo_ask_60 (by decide) (fun g12 => ?_) (fun g12 => ?_)
      · rw [if_pos g12] at hf
        refine lv_aload_n hx hb zd_Mo_ask_65 rfl (lv_at hl 0 rfl) ?_
        refine lv_dup hx hb zd_Mo_ask_66 rfl ?_
        refine zg_Mo_got hx hb hts hown X zd_Mo_ask_67 ?_
        refine lv_iconst (v := 1) hx hb zd_Mo_ask_70 (by decide) ?_
        refine lv_iadd hx hb zd_Mo_ask_71 ?_
        refine zp_Mo_got hx hb hts hown X zd_Mo_ask_72 (fun H locs X => ?_)
        refine lv_aload_n hx hb zd_Mo_ask_75 rfl (lv_at hl 0 rfl) ?_
        refine zg_Mo_number hx hb hts hown X zd_Mo_ask_76 ?_
        refine lv_aload_n hx hb zd_Mo_ask_79 rfl (lv_at hl 0 rfl) ?_
        refine zg_Mo_blocks hx hb hts hown X zd_Mo_ask_80 ?_
        refine lv_aload_n hx hb zd_Mo_ask_83 rfl (lv_at hl 0 rfl) ?_
        refine zg_Mo_got hx hb hts hown X zd_Mo_ask_84 ?_
        obtain ⟨hin, hf⟩ := zz_ck_some hf
        refine zs_Mo_number hx hb X hin zd_Mo_ask_87 (fun H locs X => ?_)
        refine lv_aload_n hx hb zd_Mo_ask_88 rfl (lv_at hl 0 rfl) ?_
        refine zg_Mo_address hx hb hts hown X zd_Mo_ask_89 ?_
        refine lv_aload_n hx hb zd_Mo_ask_92 rfl (lv_at hl 0 rfl) ?_
        refine zg_Mo_blocks hx hb hts hown X zd_Mo_ask_93 ?_
        refine lv_iload_n hx hb zd_Mo_ask_96 rfl (lv_at hl 2 rfl) ?_
        obtain ⟨hin, hf⟩ := zz_ck_some hf
        refine zs_Mo_address hx hb X hin zd_Mo_ask_97 (fun H locs X => ?_)
        refine lv_aload_n hx hb zd_Mo_ask_98 rfl (lv_at hl 0 rfl) ?_
        refine zg_Mo_size hx hb hts hown X zd_Mo_ask_99 ?_
        refine lv_aload_n hx hb zd_Mo_ask_102 rfl (lv_at hl 0 rfl) ?_
        refine zg_Mo_blocks hx hb hts hown X zd_Mo_ask_103 ?_
        refine lv_iload_n hx hb zd_Mo_ask_106 rfl (lv_at hl 1 rfl) ?_
        obtain ⟨hin, hf⟩ := zz_ck_some hf
        refine zs_Mo_size hx hb X hin zd_Mo_ask_107 (fun H locs X => ?_)
        refine lv_aload_n hx hb zd_Mo_ask_108 rfl (lv_at hl 0 rfl) ?_
        refine zg_Mo_rests hx hb hts hown X zd_Mo_ask_109 ?_
        refine lv_aload_n hx hb zd_Mo_ask_112 rfl (lv_at hl 0 rfl) ?_
        refine zg_Mo_blocks hx hb hts hown X zd_Mo_ask_113 ?_
        refine lv_iconst (v := 0) hx hb zd_Mo_ask_116 (by decide) ?_
        obtain ⟨hin, hf⟩ := zz_ck_some hf
        refine zs_Mo_rests hx hb X hin zd_Mo_ask_117 (fun H locs X => ?_)
        refine lv_aload_n hx hb zd_Mo_ask_118 rfl (lv_at hl 0 rfl) ?_
        refine lv_dup hx hb zd_Mo_ask_119 rfl ?_
        refine zg_Mo_blocks hx hb hts hown X zd_Mo_ask_120 ?_
        refine lv_iconst (v := 1) hx hb zd_Mo_ask_123 (by decide) ?_
        refine lv_iadd hx hb zd_Mo_ask_124 ?_
        refine zp_Mo_blocks hx hb hts hown X zd_Mo_ask_125 (fun H locs X => ?_)
        refine lv_aload_n hx hb zd_Mo_ask_128 rfl (lv_at hl 0 rfl) ?_
        refine lv_iload_n hx hb zd_Mo_ask_129 rfl (lv_at hl 2 rfl) ?_
        refine lv_iload_n hx hb zd_Mo_ask_130 rfl (lv_at hl 1 rfl) ?_
        refine lv_iconst (v := 1) hx hb zd_Mo_ask_131 (by decide) ?_
        obtain ⟨u10, h11, hf⟩ := Option.bind_eq_some_iff.mp hf
        refine zr_cvV (As := [.int s8_2, .int s8_1, .int (1 : Int32)]) (rest := []) (q0 := 0) (ci := 9) hx hb hml hown hts hl.1 X (zk_Mo_mark l D q cI cZ h11) zkw_Mo_mark zl_Mo_138 rfl rfl (Nat.le_of_ble_eq_true rfl) rfl rfl ⟨rfl, rfl⟩ ⟨Nat.le_of_ble_eq_true rfl, Nat.le_of_ble_eq_true rfl⟩ zd_Mo_ask_132 (fun H locs X => ?_)
        refine lv_iload_n hx hb zd_Mo_ask_135 rfl (lv_at hl 2 rfl) ?_
        exact zr_iret hx hb hr hlocks X (Option.some.inj hf) zd_Mo_ask_136
      · rw [if_neg g12] at hf
        refine lv_iconst (v := 0) hx hb zd_Mo_ask_63 (by decide) ?_
        exact zr_iret hx hb hr hlocks X (Option.some.inj hf) zd_Mo_ask_64
    · rw [if_pos g14] at hf
      refine lv_iconst (v := 0) hx hb zd_Mo_ask_19 (by decide) ?_
      exact zr_iret hx hb hr hlocks X (Option.some.inj hf) zd_Mo_ask_20

set_option maxRecDepth 100000 in
set_option maxHeartbeats 4000000 in
theorem zw_Mo_resting_L4 {p : Program} {l : Launch} {e : Env} {s : State} {m : MethodId} {args : Array Value} {below : List Frame} {meth : Method} {c : Code} {D : va_G} {q : Nat → Nat} {cI cZ : ClassId} {A : Nat → Prop} (hx : p.tables.exec = Jvm.exec) (hb : c.code = zc_Mo_resting) (hml : c.maxLocals = 3) (hown : s.vm.findClass zR_Mo = some m.cls) (hts : ∀ w ∈ zz_WS, w.before args s = true) (hr : meth.sig.returnType = (some .int)) (hlocks : meth.locks = false) (out : Int32) (σ : St) (kx : Int32 → Option Int32) (hkx : ∀ (x1 : Int32) (H : Heap) (locs : List Loc) (ls : Array Slot), zz_X D vwCl (zz_tys cI cZ) A s H locs ((wM q cI cZ) σ) → lv_has ls 3 [(1, .int x1)] → kx x1 = some out → W p l e zm_Mo_resting s m args below meth c H locs 0 0 (MQ below (zq_I D vwCl (zz_tys cI cZ) (wM q cI cZ) A (out, σ)) args s 0 0 A) (F0 m 30 ls [])) : ∀ (n : Nat) (x1 x2 : Int32) (H : Heap) (locs : List Loc) (ls : Array Slot), zz_X D vwCl (zz_tys cI cZ) A s H locs ((wM q cI cZ) σ) → lv_has ls 3 [(0, .ref (q 0)), (1, .int x1), (2, .int x2)] → zf_Mo_resting_L4 σ kx n x1 x2 = some out → W p l e zm_Mo_resting s m args below meth c H locs 0 0 (MQ below (zq_I D vwCl (zz_tys cI cZ) (wM q cI cZ) A (out, σ)) args s 0 0 A) (F0 m 4 ls []) := by
  intro n
  induction n with
  | zero =>
    intro x1 x2 H locs ls X hl hf
    exact absurd hf (by simp [zf_Mo_resting_L4])
  | succ n ih =>
    intro x1 x2 H locs ls X hl hf
    rw [zf_Mo_resting_L4] at hf
    refine lv_iload_n hx hb zd_Mo_resting_4 rfl (lv_at hl 2 rfl) ?_
    refine lv_aload_n hx hb zd_Mo_resting_5 rfl (lv_at hl 0 rfl) ?_
    refine zg_Mo_blocks hx hb hts hown X zd_Mo_resting_6 ?_
    refine lv_icmp_ge (tgt := 30) hx hb zd_Mo_resting_9 (by decide) (fun g2 => ?_) (fun g2 => ?_)
    · rw [if_pos g2] at hf
      exact hkx x1 _ _ _ X (lv_sub hl [1] rfl) hf
    · rw [if_neg g2] at hf
      refine lv_aload_n hx hb zd_Mo_resting_12 rfl (lv_at hl 0 rfl) ?_
      refine zg_Mo_rests hx hb hts hown X zd_Mo_resting_13 ?_
      refine lv_iload_n hx hb zd_Mo_resting_16 rfl (lv_at hl 2 rfl) ?_
      obtain ⟨hin, hf⟩ := zz_ck_some hf
      refine za_Mo_rests hx hb X hin zd_Mo_resting_17 ?_
      refine lv_if_le (tgt := 24) hx hb zd_Mo_resting_18 (by decide) (fun g1 => ?_) (fun g1 => ?_)
      · rw [if_pos g1] at hf
        refine lv_iinc (v := (x2 + (1 : Int32))) (lv' := [(2, .int (x2 + (1 : Int32))), (0, .ref (q 0)), (1, .int x1)]) hx hb zd_Mo_resting_24 hl (k := 2) rfl rfl (by decide) rfl (fun ls hl => ?_)
        refine lv_goto (tgt := 4) hx hb zd_Mo_resting_27 (by decide) ?_
        exact ih x1 (x2 + (1 : Int32)) _ _ _ X (lv_sub hl [1, 2, 0] rfl) hf
      · rw [if_neg g1] at hf
        refine lv_iinc (v := (x1 + (1 : Int32))) (lv' := [(1, .int (x1 + (1 : Int32))), (0, .ref (q 0)), (2, .int x2)]) hx hb zd_Mo_resting_21 hl (k := 1) rfl rfl (by decide) rfl (fun ls hl => ?_)
        refine lv_iinc (v := (x2 + (1 : Int32))) (lv' := [(2, .int (x2 + (1 : Int32))), (1, .int (x1 + (1 : Int32))), (0, .ref (q 0))]) hx hb zd_Mo_resting_24 hl (k := 2) rfl rfl (by decide) rfl (fun ls hl => ?_)
        refine lv_goto (tgt := 4) hx hb zd_Mo_resting_27 (by decide) ?_
        exact ih (x1 + (1 : Int32)) (x2 + (1 : Int32)) _ _ _ X (lv_sub hl [2, 1, 0] rfl) hf

set_option maxRecDepth 100000 in
set_option maxHeartbeats 4000000 in
theorem zk_Mo_resting (l : Launch) (D : va_G) (q : Nat → Nat) (cI cZ : ClassId) {σ : St} {out : Int32} (hf : zf_Mo_resting σ = some out) : zI l D vwCl (zz_tys cI cZ) (wM q cI cZ) zy_Mo_resting (.code zy_Mo_resting zc_Mo_resting 3 (some .int) :: zz_WS) zm_Mo_resting [.ref (q 0)] σ (out, σ) := by
  refine zI_of (by decide +kernel) (Nat.le_of_ble_eq_true rfl) (fun p e s m below meth c A ls hx hb hml hown hts hr hlocks X hl => ?_)
  have hl : lv_has ls 3 [(0, .ref (q 0))] := hl
  unfold zf_Mo_resting at hf
  refine lv_iconst (v := 0) hx hb zd_Mo_resting_0 (by decide) ?_
  refine lv_istore_n (lv' := [(1, .int (0 : Int32)), (0, .ref (q 0))]) hx hb zd_Mo_resting_1 rfl hl (by decide) rfl (fun ls hl => ?_)
  refine lv_iconst (v := 0) hx hb zd_Mo_resting_2 (by decide) ?_
  refine lv_istore_n (lv' := [(2, .int (0 : Int32)), (1, .int (0 : Int32)), (0, .ref (q 0))]) hx hb zd_Mo_resting_3 rfl hl (by decide) rfl (fun ls hl => ?_)
  refine zw_Mo_resting_L4 hx hb hml hown hts hr hlocks out σ _ (fun y_1 H locs ls X hl hf => ?_) 300 (0 : Int32) (0 : Int32) _ _ _ X (lv_sub hl [2, 1, 0] rfl) hf
  refine lv_iload_n hx hb zd_Mo_resting_30 rfl (lv_at hl 0 rfl) ?_
  exact zr_iretP hx hb hr hlocks X (Option.some.inj hf) zd_Mo_resting_31

set_option maxRecDepth 100000 in
set_option maxHeartbeats 4000000 in
theorem zw_Mo_forget_L4 {p : Program} {l : Launch} {e : Env} {s : State} {m : MethodId} {args : Array Value} {below : List Frame} {meth : Method} {c : Code} {D : va_G} {q : Nat → Nat} {cI cZ : ClassId} {A : Nat → Prop} (hx : p.tables.exec = Jvm.exec) (hb : c.code = zc_Mo_forget) (hml : c.maxLocals = 3) (hown : s.vm.findClass zR_Mo = some m.cls) (hts : ∀ w ∈ zz_WS, w.before args s = true) (hr : meth.sig.returnType = none) (hlocks : meth.locks = false) (out : St) (kx : St → Int32 → Option St) (hkx : ∀ (σ : St) (x1 : Int32) (H : Heap) (locs : List Loc) (ls : Array Slot), zz_X D vwCl (zz_tys cI cZ) A s H locs ((wM q cI cZ) σ) → lv_has ls 3 [(0, .ref (q 0)), (1, .int x1)] → kx σ x1 = some out → W p l e zm_Mo_forget s m args below meth c H locs 0 0 (MQ below (zq_V D vwCl (zz_tys cI cZ) (wM q cI cZ) A out) args s 0 0 A) (F0 m 48 ls [])) : ∀ (n : Nat) (σ : St) (x1 x2 : Int32) (H : Heap) (locs : List Loc) (ls : Array Slot), zz_X D vwCl (zz_tys cI cZ) A s H locs ((wM q cI cZ) σ) → lv_has ls 3 [(0, .ref (q 0)), (1, .int x1), (2, .int x2)] → zf_Mo_forget_L4 kx n σ x1 x2 = some out → W p l e zm_Mo_forget s m args below meth c H locs 0 0 (MQ below (zq_V D vwCl (zz_tys cI cZ) (wM q cI cZ) A out) args s 0 0 A) (F0 m 4 ls []) := by
  intro n
  induction n with
  | zero =>
    intro σ x1 x2 H locs ls X hl hf
    exact absurd hf (by simp [zf_Mo_forget_L4])
  | succ n ih =>
    intro σ x1 x2 H locs ls X hl hf
    rw [zf_Mo_forget_L4] at hf
    refine lv_iload_n hx hb zd_Mo_forget_4 rfl (lv_at hl 2 rfl) ?_
    refine lv_aload_n hx hb zd_Mo_forget_5 rfl (lv_at hl 0 rfl) ?_
    refine zg_Mo_blocks hx hb hts hown X zd_Mo_forget_6 ?_
    refine lv_icmp_ge (tgt := 48) hx hb zd_Mo_forget_9 (by decide) (fun g4 => ?_) (fun g4 => ?_)
    · rw [if_pos g4] at hf
      exact hkx σ x1 _ _ _ X (lv_sub hl [0, 1] rfl) hf
    · rw [if_neg g4] at hf
      refine lv_aload_n hx hb zd_Mo_forget_12 rfl (lv_at hl 0 rfl) ?_
      refine zg_Mo_rests hx hb hts hown X zd_Mo_forget_13 ?_
      refine lv_iload_n hx hb zd_Mo_forget_16 rfl (lv_at hl 2 rfl) ?_
      obtain ⟨hin, hf⟩ := zz_ck_some hf
      refine za_Mo_rests hx hb X hin zd_Mo_forget_17 ?_
      refine lv_if_le (tgt := 42) hx hb zd_Mo_forget_18 (by decide) (fun g3 => ?_) (fun g3 => ?_)
      · rw [if_pos g3] at hf
        refine lv_iinc (v := (x2 + (1 : Int32))) (lv' := [(2, .int (x2 + (1 : Int32))), (0, .ref (q 0)), (1, .int x1)]) hx hb zd_Mo_forget_42 hl (k := 2) rfl rfl (by decide) rfl (fun ls hl => ?_)
        refine lv_goto (tgt := 4) hx hb zd_Mo_forget_45 (by decide) ?_
        exact ih σ x1 (x2 + (1 : Int32)) _ _ _ X (lv_sub hl [1, 2, 0] rfl) hf
      · rw [if_neg g3] at hf
        refine lv_iload_n hx hb zd_Mo_forget_21 rfl (lv_at hl 1 rfl) ?_
        refine lv_if_lt (tgt := 40) hx hb zd_Mo_forget_22 (by decide) (fun g2 => ?_) (fun g2 => ?_)
        · rw [if_pos g2] at hf
          refine lv_iload_n hx hb zd_Mo_forget_40 rfl (lv_at hl 2 rfl) ?_
          refine lv_istore_n (lv' := [(1, .int x2), (0, .ref (q 0)), (2, .int x2)]) hx hb zd_Mo_forget_41 rfl hl (by decide) rfl (fun ls hl => ?_)
          refine lv_iinc (v := (x2 + (1 : Int32))) (lv' := [(2, .int (x2 + (1 : Int32))), (1, .int x2), (0, .ref (q 0))]) hx hb zd_Mo_forget_42 hl (k := 2) rfl rfl (by decide) rfl (fun ls hl => ?_)
          refine lv_goto (tgt := 4) hx hb zd_Mo_forget_45 (by decide) ?_
          exact ih σ x2 (x2 + (1 : Int32)) _ _ _ X (lv_sub hl [2, 1, 0] rfl) hf
        · rw [if_neg g2] at hf
          refine lv_aload_n hx hb zd_Mo_forget_25 rfl (lv_at hl 0 rfl) ?_
          refine zg_Mo_rests hx hb hts hown X zd_Mo_forget_26 ?_
          refine lv_iload_n hx hb zd_Mo_forget_29 rfl (lv_at hl 2 rfl) ?_
          obtain ⟨hin, hf⟩ := zz_ck_some hf
          refine za_Mo_rests hx hb X hin zd_Mo_forget_30 ?_
          refine lv_aload_n hx hb zd_Mo_forget_31 rfl (lv_at hl 0 rfl) ?_
          refine zg_Mo_rests hx hb hts hown X zd_Mo_forget_32 ?_
          refine lv_iload_n hx hb zd_Mo_forget_35 rfl (lv_at hl 1 rfl) ?_
          obtain ⟨hin, hf⟩ := zz_ck_some hf
          refine za_Mo_rests hx hb X hin zd_Mo_forget_36 ?_
          refine lv_icmp_ge (tgt := 42) hx hb zd_Mo_forget_37 (by decide) (fun g1 => ?_) (fun g1 => ?_)
          · rw [if_pos g1] at hf
            refine lv_iinc (v := (x2 + (1 : Int32))) (lv' := [(2, .int (x2 + (1 : Int32))), (0, .ref (q 0)), (1, .int x1)]) hx hb zd_Mo_forget_42 hl (k := 2) rfl rfl (by decide) rfl (fun ls hl => ?_)
            refine lv_goto (tgt := 4) hx hb zd_Mo_forget_45 (by decide) ?_
            exact ih σ x1 (x2 + (1 : Int32)) _ _ _ X (lv_sub hl [1, 2, 0] rfl) hf
          · rw [if_neg g1] at hf
            refine lv_iload_n hx hb zd_Mo_forget_40 rfl (lv_at hl 2 rfl) ?_
            refine lv_istore_n (lv' := [(1, .int x2), (0, .ref (q 0)), (2, .int x2)]) hx hb zd_Mo_forget_41 rfl hl (by decide) rfl (fun ls hl => ?_)
            refine lv_iinc (v := (x2 + (1 : Int32))) (lv' := [(2, .int (x2 + (1 : Int32))), (1, .int x2), (0, .ref (q 0))]) hx hb zd_Mo_forget_42 hl (k := 2) rfl rfl (by decide) rfl (fun ls hl => ?_)
            refine lv_goto (tgt := 4) hx hb zd_Mo_forget_45 (by decide) ?_
            exact ih σ x2 (x2 + (1 : Int32)) _ _ _ X (lv_sub hl [2, 1, 0] rfl) hf

set_option maxRecDepth 100000 in
set_option maxHeartbeats 4000000 in
theorem zw_Mo_forget_L60 {p : Program} {l : Launch} {e : Env} {s : State} {m : MethodId} {args : Array Value} {below : List Frame} {meth : Method} {c : Code} {D : va_G} {q : Nat → Nat} {cI cZ : ClassId} {A : Nat → Prop} (hx : p.tables.exec = Jvm.exec) (hb : c.code = zc_Mo_forget) (hml : c.maxLocals = 3) (hown : s.vm.findClass zR_Mo = some m.cls) (hts : ∀ w ∈ zz_WS, w.before args s = true) (hr : meth.sig.returnType = none) (hlocks : meth.locks = false) (out : St) (kx : St → Option St) (hkx : ∀ (σ : St) (H : Heap) (locs : List Loc) (ls : Array Slot), zz_X D vwCl (zz_tys cI cZ) A s H locs ((wM q cI cZ) σ) → lv_has ls 3 [] → kx σ = some out → W p l e zm_Mo_forget s m args below meth c H locs 0 0 (MQ below (zq_V D vwCl (zz_tys cI cZ) (wM q cI cZ) A out) args s 0 0 A) (F0 m 130 ls [])) : ∀ (n : Nat) (σ : St) (x2 : Int32) (H : Heap) (locs : List Loc) (ls : Array Slot), zz_X D vwCl (zz_tys cI cZ) A s H locs ((wM q cI cZ) σ) → lv_has ls 3 [(0, .ref (q 0)), (2, .int x2)] → zf_Mo_forget_L60 kx n σ x2 = some out → W p l e zm_Mo_forget s m args below meth c H locs 0 0 (MQ below (zq_V D vwCl (zz_tys cI cZ) (wM q cI cZ) A out) args s 0 0 A) (F0 m 60 ls []) := by
  intro n
  induction n with
  | zero =>
    intro σ x2 H locs ls X hl hf
    exact absurd hf (by simp [zf_Mo_forget_L60])
  | succ n ih =>
    intro σ x2 H locs ls X hl hf
    rw [zf_Mo_forget_L60] at hf
    refine lv_iload_n hx hb zd_Mo_forget_60 rfl (lv_at hl 1 rfl) ?_
    refine lv_aload_n hx hb zd_Mo_forget_61 rfl (lv_at hl 0 rfl) ?_
    refine zg_Mo_blocks hx hb hts hown X zd_Mo_forget_62 ?_
    refine lv_icmp_ge (tgt := 130) hx hb zd_Mo_forget_65 (by decide) (fun g6 => ?_) (fun g6 => ?_)
    · rw [if_pos g6] at hf
      exact hkx σ _ _ _ X (lv_sub hl [] rfl) hf
    · rw [if_neg g6] at hf
      refine lv_aload_n hx hb zd_Mo_forget_68 rfl (lv_at hl 0 rfl) ?_
      refine zg_Mo_number hx hb hts hown X zd_Mo_forget_69 ?_
      refine lv_iload_n hx hb zd_Mo_forget_72 rfl (lv_at hl 1 rfl) ?_
      refine lv_aload_n hx hb zd_Mo_forget_73 rfl (lv_at hl 0 rfl) ?_
      refine zg_Mo_number hx hb hts hown X zd_Mo_forget_74 ?_
      refine lv_iload_n hx hb zd_Mo_forget_77 rfl (lv_at hl 1 rfl) ?_
      refine lv_iconst (v := 1) hx hb zd_Mo_forget_78 (by decide) ?_
      refine lv_iadd hx hb zd_Mo_forget_79 ?_
      obtain ⟨hin, hf⟩ := zz_ck_some hf
      refine za_Mo_number hx hb X hin zd_Mo_forget_80 ?_
      obtain ⟨hin, hf⟩ := zz_ck_some hf
      refine zs_Mo_number hx hb X hin zd_Mo_forget_81 (fun H locs X => ?_)
      refine lv_aload_n hx hb zd_Mo_forget_82 rfl (lv_at hl 0 rfl) ?_
      refine zg_Mo_address hx hb hts hown X zd_Mo_forget_83 ?_
      refine lv_iload_n hx hb zd_Mo_forget_86 rfl (lv_at hl 1 rfl) ?_
      refine lv_aload_n hx hb zd_Mo_forget_87 rfl (lv_at hl 0 rfl) ?_
      refine zg_Mo_address hx hb hts hown X zd_Mo_forget_88 ?_
      refine lv_iload_n hx hb zd_Mo_forget_91 rfl (lv_at hl 1 rfl) ?_
      refine lv_iconst (v := 1) hx hb zd_Mo_forget_92 (by decide) ?_
      refine lv_iadd hx hb zd_Mo_forget_93 ?_
      obtain ⟨hin, hf⟩ := zz_ck_some hf
      refine za_Mo_address hx hb X hin zd_Mo_forget_94 ?_
      obtain ⟨hin, hf⟩ := zz_ck_some hf
      refine zs_Mo_address hx hb X hin zd_Mo_forget_95 (fun H locs X => ?_)
      refine lv_aload_n hx hb zd_Mo_forget_96 rfl (lv_at hl 0 rfl) ?_
      refine zg_Mo_size hx hb hts hown X zd_Mo_forget_97 ?_
      refine lv_iload_n hx hb zd_Mo_forget_100 rfl (lv_at hl 1 rfl) ?_
      refine lv_aload_n hx hb zd_Mo_forget_101 rfl (lv_at hl 0 rfl) ?_
      refine zg_Mo_size hx hb hts hown X zd_Mo_forget_102 ?_
      refine lv_iload_n hx hb zd_Mo_forget_105 rfl (lv_at hl 1 rfl) ?_
      refine lv_iconst (v := 1) hx hb zd_Mo_forget_106 (by decide) ?_
      refine lv_iadd hx hb zd_Mo_forget_107 ?_
      obtain ⟨hin, hf⟩ := zz_ck_some hf
      refine za_Mo_size hx hb X hin zd_Mo_forget_108 ?_
      obtain ⟨hin, hf⟩ := zz_ck_some hf
      refine zs_Mo_size hx hb X hin zd_Mo_forget_109 (fun H locs X => ?_)
      refine lv_aload_n hx hb zd_Mo_forget_110 rfl (lv_at hl 0 rfl) ?_
      refine zg_Mo_rests hx hb hts hown X zd_Mo_forget_111 ?_
      refine lv_iload_n hx hb zd_Mo_forget_114 rfl (lv_at hl 1 rfl) ?_
      refine lv_aload_n hx hb zd_Mo_forget_115 rfl (lv_at hl 0 rfl) ?_
      refine zg_Mo_rests hx hb hts hown X zd_Mo_forget_116 ?_
      refine lv_iload_n hx hb zd_Mo_forget_119 rfl (lv_at hl 1 rfl) ?_
      refine lv_iconst (v := 1) hx hb zd_Mo_forget_120 (by decide) ?_
      refine lv_iadd hx hb zd_Mo_forget_121 ?_
      obtain ⟨hin, hf⟩ := zz_ck_some hf
      refine za_Mo_rests hx hb X hin zd_Mo_forget_122 ?_
      obtain ⟨hin, hf⟩ := zz_ck_some hf
      refine zs_Mo_rests hx hb X hin zd_Mo_forget_123 (fun H locs X => ?_)
      refine lv_iinc (v := (x2 + (1 : Int32))) (lv' := [(2, .int (x2 + (1 : Int32))), (0, .ref (q 0))]) hx hb zd_Mo_forget_124 hl (k := 1) rfl rfl (by decide) rfl (fun ls hl => ?_)
      refine lv_goto (tgt := 60) hx hb zd_Mo_forget_127 (by decide) ?_
      exact ih (zz_put (zz_put (zz_put (zz_put σ 10 x2.toNatClampNeg (σ 10 (x2 + (1 : Int32)).toNatClampNeg)) 11 x2.toNatClampNeg ((zz_put σ 10 x2.toNatClampNeg (σ 10 (x2 + (1 : Int32)).toNatClampNeg)) 11 (x2 + (1 : Int32)).toNatClampNeg)) 12 x2.toNatClampNeg ((zz_put (zz_put σ 10 x2.toNatClampNeg (σ 10 (x2 + (1 : Int32)).toNatClampNeg)) 11 x2.toNatClampNeg ((zz_put σ 10 x2.toNatClampNeg (σ 10 (x2 + (1 : Int32)).toNatClampNeg)) 11 (x2 + (1 : Int32)).toNatClampNeg)) 12 (x2 + (1 : Int32)).toNatClampNeg)) 13 x2.toNatClampNeg ((zz_put (zz_put (zz_put σ 10 x2.toNatClampNeg (σ 10 (x2 + (1 : Int32)).toNatClampNeg)) 11 x2.toNatClampNeg ((zz_put σ 10 x2.toNatClampNeg (σ 10 (x2 + (1 : Int32)).toNatClampNeg)) 11 (x2 + (1 : Int32)).toNatClampNeg)) 12 x2.toNatClampNeg ((zz_put (zz_put σ 10 x2.toNatClampNeg (σ 10 (x2 + (1 : Int32)).toNatClampNeg)) 11 x2.toNatClampNeg ((zz_put σ 10 x2.toNatClampNeg (σ 10 (x2 + (1 : Int32)).toNatClampNeg)) 11 (x2 + (1 : Int32)).toNatClampNeg)) 12 (x2 + (1 : Int32)).toNatClampNeg)) 13 (x2 + (1 : Int32)).toNatClampNeg)) (x2 + (1 : Int32)) _ _ _ X (lv_sub hl [1, 0] rfl) hf

set_option maxRecDepth 100000 in
set_option maxHeartbeats 4000000 in
theorem zk_Mo_forget (l : Launch) (D : va_G) (q : Nat → Nat) (cI cZ : ClassId) {σ : St} {out : St} (hf : zf_Mo_forget σ = some out) : zV l D vwCl (zz_tys cI cZ) (wM q cI cZ) zy_Mo_forget (.code zy_Mo_forget zc_Mo_forget 3 none :: zz_WS) zm_Mo_forget [.ref (q 0)] σ out := by
  refine zV_of (by decide +kernel) (Nat.le_of_ble_eq_true rfl) (fun p e s m below meth c A ls hx hb hml hown hts hr hlocks X hl => ?_)
  have hl : lv_has ls 3 [(0, .ref (q 0))] := hl
  unfold zf_Mo_forget at hf
  refine lv_iconst (v := -1) hx hb zd_Mo_forget_0 (by decide) ?_
  refine lv_istore_n (lv' := [(1, .int (-1 : Int32)), (0, .ref (q 0))]) hx hb zd_Mo_forget_1 rfl hl (by decide) rfl (fun ls hl => ?_)
  refine lv_iconst (v := 0) hx hb zd_Mo_forget_2 (by decide) ?_
  refine lv_istore_n (lv' := [(2, .int (0 : Int32)), (1, .int (-1 : Int32)), (0, .ref (q 0))]) hx hb zd_Mo_forget_3 rfl hl (by decide) rfl (fun ls hl => ?_)
  refine zw_Mo_forget_L4 hx hb hml hown hts hr hlocks out _ (fun s5 s5_1 H locs ls X hl hf => ?_) 300 σ (-1 : Int32) (0 : Int32) _ _ _ X (lv_sub hl [2, 1, 0] rfl) hf
  refine lv_aload_n hx hb zd_Mo_forget_48 rfl (lv_at hl 0 rfl) ?_
  refine lv_dup hx hb zd_Mo_forget_49 rfl ?_
  refine zg_Mo_blocks hx hb hts hown X zd_Mo_forget_50 ?_
  refine lv_iconst (v := 1) hx hb zd_Mo_forget_53 (by decide) ?_
  refine lv_isub hx hb zd_Mo_forget_54 ?_
  refine zp_Mo_blocks hx hb hts hown X zd_Mo_forget_55 (fun H locs X => ?_)
  refine lv_iload_n hx hb zd_Mo_forget_58 rfl (lv_at hl 1 rfl) ?_
  refine lv_istore_n (lv' := [(2, .int s5_1), (0, .ref (q 0)), (1, .int s5_1)]) hx hb zd_Mo_forget_59 rfl hl (by decide) rfl (fun ls hl => ?_)
  refine zw_Mo_forget_L60 hx hb hml hown hts hr hlocks out _ (fun s7 H locs ls X hl hf => ?_) 300 (zz_put s5 20 0 ((s5 20 0) - (1 : Int32))) s5_1 _ _ _ X (lv_sub hl [1, 0] rfl) hf
  exact zr_vret hx hb hr hlocks X (Option.some.inj hf) zd_Mo_forget_130

set_option maxRecDepth 100000 in
set_option maxHeartbeats 4000000 in
theorem zw_Mo_give_L2 {p : Program} {l : Launch} {e : Env} {s : State} {m : MethodId} {args : Array Value} {below : List Frame} {meth : Method} {c : Code} {D : va_G} {q : Nat → Nat} {cI cZ : ClassId} {A : Nat → Prop} (hx : p.tables.exec = Jvm.exec) (hb : c.code = zc_Mo_give) (hml : c.maxLocals = 3) (hown : s.vm.findClass zR_Mo = some m.cls) (hts : ∀ w ∈ zz_WS, w.before args s = true) (hr : meth.sig.returnType = none) (hlocks : meth.locks = false) (out : St) (kx : St → Int32 → Int32 → Option St) (hkx : ∀ (σ : St) (x1 x2 : Int32) (H : Heap) (locs : List Loc) (ls : Array Slot), zz_X D vwCl (zz_tys cI cZ) A s H locs ((wM q cI cZ) σ) → lv_has ls 3 [(0, .ref (q 0)), (1, .int x1), (2, .int x2)] → kx σ x1 x2 = some out → W p l e zm_Mo_give s m args below meth c H locs 0 0 (MQ below (zq_V D vwCl (zz_tys cI cZ) (wM q cI cZ) A out) args s 0 0 A) (F0 m 26 ls [])) : ∀ (n : Nat) (σ : St) (x1 x2 : Int32) (H : Heap) (locs : List Loc) (ls : Array Slot), zz_X D vwCl (zz_tys cI cZ) A s H locs ((wM q cI cZ) σ) → lv_has ls 3 [(0, .ref (q 0)), (1, .int x1), (2, .int x2)] → zf_Mo_give_L2 kx n σ x1 x2 = some out → W p l e zm_Mo_give s m args below meth c H locs 0 0 (MQ below (zq_V D vwCl (zz_tys cI cZ) (wM q cI cZ) A out) args s 0 0 A) (F0 m 2 ls []) := by
  intro n
  induction n with
  | zero =>
    intro σ x1 x2 H locs ls X hl hf
    exact absurd hf (by simp [zf_Mo_give_L2])
  | succ n ih =>
    intro σ x1 x2 H locs ls X hl hf
    rw [zf_Mo_give_L2] at hf
    refine lv_iload_n hx hb zd_Mo_give_2 rfl (lv_at hl 2 rfl) ?_
    refine lv_aload_n hx hb zd_Mo_give_3 rfl (lv_at hl 0 rfl) ?_
    refine zg_Mo_blocks hx hb hts hown X zd_Mo_give_4 ?_
    refine lv_icmp_ge (tgt := 26) hx hb zd_Mo_give_7 (by decide) (fun g2 => ?_) (fun g2 => ?_)
    · rw [if_pos g2] at hf
      exact hkx σ x1 x2 _ _ _ X hl hf
    · rw [if_neg g2] at hf
      refine lv_aload_n hx hb zd_Mo_give_10 rfl (lv_at hl 0 rfl) ?_
      refine zg_Mo_address hx hb hts hown X zd_Mo_give_11 ?_
      refine lv_iload_n hx hb zd_Mo_give_14 rfl (lv_at hl 2 rfl) ?_
      obtain ⟨hin, hf⟩ := zz_ck_some hf
      refine za_Mo_address hx hb X hin zd_Mo_give_15 ?_
      refine lv_iload_n hx hb zd_Mo_give_16 rfl (lv_at hl 1 rfl) ?_
      refine lv_icmp_eq (tgt := 26) hx hb zd_Mo_give_17 (by decide) (fun g1 => ?_) (fun g1 => ?_)
      · rw [if_pos g1] at hf
        exact hkx σ x1 x2 _ _ _ X hl hf
      · rw [if_neg g1] at hf
        refine lv_iinc (v := (x2 + (1 : Int32))) (lv' := [(2, .int (x2 + (1 : Int32))), (0, .ref (q 0)), (1, .int x1)]) hx hb zd_Mo_give_20 hl (k := 2) rfl rfl (by decide) rfl (fun ls hl => ?_)
        refine lv_goto (tgt := 2) hx hb zd_Mo_give_23 (by decide) ?_
        exact ih σ x1 (x2 + (1 : Int32)) _ _ _ X (lv_sub hl [1, 2, 0] rfl) hf

set_option maxRecDepth 100000 in
set_option maxHeartbeats 4000000 in
theorem zk_Mo_give (l : Launch) (D : va_G) (q : Nat → Nat) (cI cZ : ClassId) {σ : St} {x1 : Int32} {out : St} (hf : zf_Mo_give σ x1 = some out) : zV l D vwCl (zz_tys cI cZ) (wM q cI cZ) zy_Mo_give (.code zy_Mo_give zc_Mo_give 3 none :: zz_WS) zm_Mo_give [.ref (q 0), .int x1] σ out := by
  refine zV_of (by decide +kernel) (Nat.le_of_ble_eq_true rfl) (fun p e s m below meth c A ls hx hb hml hown hts hr hlocks X hl => ?_)
  have hl : lv_has ls 3 [(0, .ref (q 0)), (1, .int x1)] := hl
  unfold zf_Mo_give at hf
  refine lv_iconst (v := 0) hx hb zd_Mo_give_0 (by decide) ?_
  refine lv_istore_n (lv' := [(2, .int (0 : Int32)), (0, .ref (q 0)), (1, .int x1)]) hx hb zd_Mo_give_1 rfl hl (by decide) rfl (fun ls hl => ?_)
  refine zw_Mo_give_L2 hx hb hml hown hts hr hlocks out _ (fun s3 s3_1 s3_2 H locs ls X hl hf => ?_) 300 σ x1 (0 : Int32) _ _ _ X (lv_sub hl [1, 2, 0] rfl) hf
  refine lv_iload_n hx hb zd_Mo_give_26 rfl (lv_at hl 2 rfl) ?_
  refine lv_aload_n hx hb zd_Mo_give_27 rfl (lv_at hl 0 rfl) ?_
  refine zg_Mo_blocks hx hb hts hown X zd_Mo_give_28 ?_
  refine lv_icmp_ne (tgt := 43) hx hb zd_Mo_give_31 (by decide) (fun g16 => ?_) (fun g16 => ?_)
  · rw [if_neg g16] at hf
    refine lv_aload_n hx hb zd_Mo_give_43 rfl (lv_at hl 0 rfl) ?_
    refine zg_Mo_rests hx hb hts hown X zd_Mo_give_44 ?_
    refine lv_iload_n hx hb zd_Mo_give_47 rfl (lv_at hl 2 rfl) ?_
    obtain ⟨hin, hf⟩ := zz_ck_some hf
    refine za_Mo_rests hx hb X hin zd_Mo_give_48 ?_
    refine lv_if_le (tgt := 62) hx hb zd_Mo_give_49 (by decide) (fun g13 => ?_) (fun g13 => ?_)
    · rw [if_pos g13] at hf
      refine lv_aload_n hx hb zd_Mo_give_62 rfl (lv_at hl 0 rfl) ?_
      refine lv_dup hx hb zd_Mo_give_63 rfl ?_
      refine zg_Mo_clock hx hb hts hown X zd_Mo_give_64 ?_
      refine lv_iconst (v := 1) hx hb zd_Mo_give_67 (by decide) ?_
      refine lv_iadd hx hb zd_Mo_give_68 ?_
      refine zp_Mo_clock hx hb hts hown X zd_Mo_give_69 (fun H locs X => ?_)
      refine lv_aload_n hx hb zd_Mo_give_72 rfl (lv_at hl 0 rfl) ?_
      refine zg_Mo_rests hx hb hts hown X zd_Mo_give_73 ?_
      refine lv_iload_n hx hb zd_Mo_give_76 rfl (lv_at hl 2 rfl) ?_
      refine lv_aload_n hx hb zd_Mo_give_77 rfl (lv_at hl 0 rfl) ?_
      refine zg_Mo_clock hx hb hts hown X zd_Mo_give_78 ?_
      obtain ⟨hin, hf⟩ := zz_ck_some hf
      refine zs_Mo_rests hx hb X hin zd_Mo_give_81 (fun H locs X => ?_)
      refine lv_aload_n hx hb zd_Mo_give_82 rfl (lv_at hl 0 rfl) ?_
      refine lv_iload_n hx hb zd_Mo_give_83 rfl (lv_at hl 1 rfl) ?_
      refine lv_aload_n hx hb zd_Mo_give_84 rfl (lv_at hl 0 rfl) ?_
      refine zg_Mo_size hx hb hts hown X zd_Mo_give_85 ?_
      refine lv_iload_n hx hb zd_Mo_give_88 rfl (lv_at hl 2 rfl) ?_
      obtain ⟨hin, hf⟩ := zz_ck_some hf
      refine za_Mo_size hx hb X hin zd_Mo_give_89 ?_
      refine lv_iconst (v := 0) hx hb zd_Mo_give_90 (by decide) ?_
      obtain ⟨u4, h10, hf⟩ := Option.bind_eq_some_iff.mp hf
      refine zr_cvV (As := [.int s3_1, .int ((zz_put (zz_put s3 22 0 ((s3 22 0) + (1 : Int32))) 13 s3_2.toNatClampNeg ((zz_put s3 22 0 ((s3 22 0) + (1 : Int32))) 22 0)) 12 s3_2.toNatClampNeg), .int (0 : Int32)]) (rest := []) (q0 := 0) (ci := 9) hx hb hml hown hts hl.1 X (zk_Mo_mark l D q cI cZ h10) zkw_Mo_mark zl_Mo_138 rfl rfl (Nat.le_of_ble_eq_true rfl) rfl rfl ⟨rfl, rfl⟩ ⟨Nat.le_of_ble_eq_true rfl, Nat.le_of_ble_eq_true rfl⟩ zd_Mo_give_91 (fun H locs X => ?_)
      refine lv_aload_n hx hb zd_Mo_give_94 rfl (lv_at hl 0 rfl) ?_
      obtain ⟨r5, h9, hf⟩ := Option.bind_eq_some_iff.mp hf
      refine zr_cvP (As := []) (rest := []) (q0 := 0) (ci := 9) hx hb hml hown hts hl.1 X (zk_Mo_resting l D q cI cZ h9) zkw_Mo_resting zl_Mo_144 rfl rfl (Nat.le_of_ble_eq_true rfl) rfl rfl ⟨rfl, rfl⟩ ⟨Nat.le_of_ble_eq_true rfl, Nat.le_of_ble_eq_true rfl⟩ zd_Mo_give_95 (fun H locs X => ?_)
      refine lv_iconst (v := 3) hx hb zd_Mo_give_98 (by decide) ?_
      refine lv_icmp_le (tgt := 106) hx hb zd_Mo_give_99 (by decide) (fun g8 => ?_) (fun g8 => ?_)
      · rw [if_pos g8] at hf
        exact zr_vret hx hb hr hlocks X (Option.some.inj hf) zd_Mo_give_106
      · rw [if_neg g8] at hf
        refine lv_aload_n hx hb zd_Mo_give_102 rfl (lv_at hl 0 rfl) ?_
        obtain ⟨u6, h7, hf⟩ := Option.bind_eq_some_iff.mp hf
        refine zr_cvV (As := []) (rest := []) (q0 := 0) (ci := 9) hx hb hml hown hts hl.1 X (zk_Mo_forget l D q cI cZ h7) zkw_Mo_forget zl_Mo_148 rfl rfl (Nat.le_of_ble_eq_true rfl) rfl rfl ⟨rfl, rfl⟩ ⟨Nat.le_of_ble_eq_true rfl, Nat.le_of_ble_eq_true rfl⟩ zd_Mo_give_103 (fun H locs X => ?_)
        exact zr_vret hx hb hr hlocks X (Option.some.inj hf) zd_Mo_give_106
    · rw [if_neg g13] at hf
      refine lv_aload_n hx hb zd_Mo_give_52 rfl (lv_at hl 0 rfl) ?_
      refine lv_bipush (v := 6) hx hb zd_Mo_give_53 (by decide) ?_
      refine lv_iload_n hx hb zd_Mo_give_55 rfl (lv_at hl 1 rfl) ?_
      obtain ⟨u11, h12, hf⟩ := Option.bind_eq_some_iff.mp hf
      refine zr_cvV (As := [.int (6 : Int32), .int s3_1]) (rest := []) (q0 := 0) (ci := 9) hx hb hml hown hts hl.1 X (zk_Mo_note l D q cI cZ h12) zkw_Mo_note zl_Mo_112 rfl rfl (Nat.le_of_ble_eq_true rfl) rfl rfl ⟨rfl, rfl⟩ ⟨Nat.le_of_ble_eq_true rfl, Nat.le_of_ble_eq_true rfl⟩ zd_Mo_give_56 (fun H locs X => ?_)
      refine lv_goto (tgt := 106) hx hb zd_Mo_give_59 (by decide) ?_
      exact zr_vret hx hb hr hlocks X (Option.some.inj hf) zd_Mo_give_106
  · rw [if_pos g16] at hf
    refine lv_aload_n hx hb zd_Mo_give_34 rfl (lv_at hl 0 rfl) ?_
    refine lv_iconst (v := 5) hx hb zd_Mo_give_35 (by decide) ?_
    refine lv_iload_n hx hb zd_Mo_give_36 rfl (lv_at hl 1 rfl) ?_
    obtain ⟨u14, h15, hf⟩ := Option.bind_eq_some_iff.mp hf
    refine zr_cvV (As := [.int (5 : Int32), .int s3_1]) (rest := []) (q0 := 0) (ci := 9) hx hb hml hown hts hl.1 X (zk_Mo_note l D q cI cZ h15) zkw_Mo_note zl_Mo_112 rfl rfl (Nat.le_of_ble_eq_true rfl) rfl rfl ⟨rfl, rfl⟩ ⟨Nat.le_of_ble_eq_true rfl, Nat.le_of_ble_eq_true rfl⟩ zd_Mo_give_37 (fun H locs X => ?_)
    refine lv_goto (tgt := 106) hx hb zd_Mo_give_40 (by decide) ?_
    exact zr_vret hx hb hr hlocks X (Option.some.inj hf) zd_Mo_give_106

set_option maxRecDepth 100000 in
set_option maxHeartbeats 4000000 in
theorem zw_Mo_perform_b192 {p : Program} {l : Launch} {e : Env} {s : State} {m : MethodId} {args : Array Value} {below : List Frame} {meth : Method} {c : Code} {D : va_G} {q : Nat → Nat} {cI cZ : ClassId} {A : Nat → Prop} (hx : p.tables.exec = Jvm.exec) (hb : c.code = zc_Mo_perform) (hml : c.maxLocals = 6) (hown : s.vm.findClass zR_Mo = some m.cls) (hts : ∀ w ∈ zz_WS, w.before args s = true) (hr : meth.sig.returnType = (some .int)) (hlocks : meth.locks = false) (out : (Int32 × St)) : ∀ (σ : St) (x1 x2 x3 x4 : Int32) (H : Heap) (locs : List Loc) (ls : Array Slot), zz_X D vwCl (zz_tys cI cZ) A s H locs ((wM q cI cZ) σ) → lv_has ls 6 [(0, .ref (q 0)), (1, .int x1), (2, .int x2), (3, .int x3), (4, .int x4)] → zf_Mo_perform_b192 σ x1 x2 x3 x4 = some out → W p l e zm_Mo_perform s m args below meth c H locs 0 0 (MQ below (zq_I D vwCl (zz_tys cI cZ) (wM q cI cZ) A out) args s 0 0 A) (F0 m 192 ls []) := by
  intro σ x1 x2 x3 x4 H locs ls X hl hf
  rw [zf_Mo_perform_b192] at hf
  refine lv_iload_n hx hb zd_Mo_perform_192 rfl (lv_at hl 1 rfl) ?_
  refine lv_bipush (v := 15) hx hb zd_Mo_perform_193 (by decide) ?_
  refine lv_icmp_ne (tgt := 208) hx hb zd_Mo_perform_195 (by decide) (fun g12 => ?_) (fun g12 => ?_)
  · rw [if_neg g12] at hf
    refine lv_iload_n hx hb zd_Mo_perform_208 rfl (lv_at hl 1 rfl) ?_
    refine lv_bipush (v := 16) hx hb zd_Mo_perform_209 (by decide) ?_
    refine lv_icmp_ne (tgt := 219) hx hb zd_Mo_perform_211 (by decide) (fun g11 => ?_) (fun g11 => ?_)
    · rw [if_neg g11] at hf
      refine lv_iload_n hx hb zd_Mo_perform_219 rfl (lv_at hl 1 rfl) ?_
      refine lv_bipush (v := 17) hx hb zd_Mo_perform_220 (by decide) ?_
      refine lv_icmp_ne (tgt := 245) hx hb zd_Mo_perform_222 (by decide) (fun g10 => ?_) (fun g10 => ?_)
      · rw [if_neg g10] at hf
        refine lv_iload_n hx hb zd_Mo_perform_245 rfl (lv_at hl 1 rfl) ?_
        refine lv_bipush (v := 18) hx hb zd_Mo_perform_246 (by decide) ?_
        refine lv_icmp_ne (tgt := 259) hx hb zd_Mo_perform_248 (by decide) (fun g5 => ?_) (fun g5 => ?_)
        · rw [if_neg g5] at hf
          refine lv_aload_n hx hb zd_Mo_perform_259 rfl (lv_at hl 0 rfl) ?_
          refine lv_iload_n hx hb zd_Mo_perform_260 rfl (lv_at hl 1 rfl) ?_
          refine lv_iload_n hx hb zd_Mo_perform_261 rfl (lv_at hl 2 rfl) ?_
          obtain ⟨u1, h2, hf⟩ := Option.bind_eq_some_iff.mp hf
          refine zr_cvV (As := [.int x1, .int x2]) (rest := []) (q0 := 0) (ci := 9) hx hb hml hown hts hl.1 X (zk_Mo_compute l D q cI cZ h2) zkw_Mo_compute zl_Mo_158 rfl rfl (Nat.le_of_ble_eq_true rfl) rfl rfl ⟨rfl, rfl⟩ ⟨Nat.le_of_ble_eq_true rfl, Nat.le_of_ble_eq_true rfl⟩ zd_Mo_perform_262 (fun H locs X => ?_)
          refine lv_iload hx hb zd_Mo_perform_265 (lv_at hl 4 rfl) ?_
          exact zr_iret hx hb hr hlocks X (Option.some.inj hf) zd_Mo_perform_267
        · rw [if_pos g5] at hf
          refine lv_aload_n hx hb zd_Mo_perform_251 rfl (lv_at hl 0 rfl) ?_
          refine lv_iload_n hx hb zd_Mo_perform_252 rfl (lv_at hl 3 rfl) ?_
          obtain ⟨u3, h4, hf⟩ := Option.bind_eq_some_iff.mp hf
          refine zr_cvV (As := [.int x3]) (rest := []) (q0 := 0) (ci := 9) hx hb hml hown hts hl.1 X (zk_Mo_give l D q cI cZ h4) zkw_Mo_give zl_Mo_154 rfl rfl (Nat.le_of_ble_eq_true rfl) rfl rfl ⟨rfl, rfl⟩ ⟨Nat.le_of_ble_eq_true rfl, Nat.le_of_ble_eq_true rfl⟩ zd_Mo_perform_253 (fun H locs X => ?_)
          refine lv_goto (tgt := 265) hx hb zd_Mo_perform_256 (by decide) ?_
          refine lv_iload hx hb zd_Mo_perform_265 (lv_at hl 4 rfl) ?_
          exact zr_iret hx hb hr hlocks X (Option.some.inj hf) zd_Mo_perform_267
      · rw [if_pos g10] at hf
        refine lv_aload_n hx hb zd_Mo_perform_225 rfl (lv_at hl 0 rfl) ?_
        refine lv_aload_n hx hb zd_Mo_perform_226 rfl (lv_at hl 0 rfl) ?_
        refine zg_Mo_d hx hb hts hown X zd_Mo_perform_227 ?_
        refine lv_iload_n hx hb zd_Mo_perform_230 rfl (lv_at hl 2 rfl) ?_
        obtain ⟨hin, hf⟩ := zz_ck_some hf
        refine za_Mo_d hx hb X hin zd_Mo_perform_231 ?_
        refine lv_aload_n hx hb zd_Mo_perform_232 rfl (lv_at hl 0 rfl) ?_
        refine lv_iload_n hx hb zd_Mo_perform_233 rfl (lv_at hl 3 rfl) ?_
        obtain ⟨u6, h9, hf⟩ := Option.bind_eq_some_iff.mp hf
        refine zr_cvI (As := [.int x3]) (rest := [.int (σ 1 x2.toNatClampNeg), .ref (q 0)]) (q0 := 0) (ci := 9) hx hb hml hown hts hl.1 X (zk_Mo_ask l D q cI cZ h9) zkw_Mo_ask zl_Mo_151 rfl rfl (Nat.le_of_ble_eq_true rfl) rfl rfl ⟨rfl, rfl⟩ ⟨Nat.le_of_ble_eq_true rfl, Nat.le_of_ble_eq_true rfl⟩ zd_Mo_perform_234 (fun H locs X => ?_)
        refine lv_bipush (v := 15) hx hb zd_Mo_perform_237 (by decide) ?_
        obtain ⟨u7, h8, hf⟩ := Option.bind_eq_some_iff.mp hf
        refine zr_cvV (As := [.int (σ 1 x2.toNatClampNeg), .int u6.1, .int (15 : Int32)]) (rest := []) (q0 := 0) (ci := 9) hx hb hml hown hts hl.1 X (zk_Mo_put l D q cI cZ h8) zkw_Mo_put zl_Mo_98 rfl rfl (Nat.le_of_ble_eq_true rfl) rfl rfl ⟨rfl, rfl⟩ ⟨Nat.le_of_ble_eq_true rfl, Nat.le_of_ble_eq_true rfl⟩ zd_Mo_perform_239 (fun H locs X => ?_)
        refine lv_goto (tgt := 265) hx hb zd_Mo_perform_242 (by decide) ?_
        refine lv_iload hx hb zd_Mo_perform_265 (lv_at hl 4 rfl) ?_
        exact zr_iret hx hb hr hlocks X (Option.some.inj hf) zd_Mo_perform_267
    · rw [if_pos g11] at hf
      refine lv_iload_n hx hb zd_Mo_perform_214 rfl (lv_at hl 3 rfl) ?_
      refine lv_bipush (v := 31) hx hb zd_Mo_perform_215 (by decide) ?_
      refine lv_iand hx hb zd_Mo_perform_217 ?_
      exact zr_iret hx hb hr hlocks X (Option.some.inj hf) zd_Mo_perform_218
  · rw [if_pos g12] at hf
    refine lv_aload_n hx hb zd_Mo_perform_198 rfl (lv_at hl 0 rfl) ?_
    refine zg_Mo_n hx hb hts hown X zd_Mo_perform_199 ?_
    refine lv_iload_n hx hb zd_Mo_perform_202 rfl (lv_at hl 2 rfl) ?_
    obtain ⟨hin, hf⟩ := zz_ck_some hf
    refine za_Mo_n hx hb X hin zd_Mo_perform_203 ?_
    refine lv_bipush (v := 31) hx hb zd_Mo_perform_204 (by decide) ?_
    refine lv_iand hx hb zd_Mo_perform_206 ?_
    exact zr_iret hx hb hr hlocks X (Option.some.inj hf) zd_Mo_perform_207

set_option maxRecDepth 100000 in
set_option maxHeartbeats 4000000 in
theorem zw_Mo_perform_b100 {p : Program} {l : Launch} {e : Env} {s : State} {m : MethodId} {args : Array Value} {below : List Frame} {meth : Method} {c : Code} {D : va_G} {q : Nat → Nat} {cI cZ : ClassId} {A : Nat → Prop} (hx : p.tables.exec = Jvm.exec) (hb : c.code = zc_Mo_perform) (hml : c.maxLocals = 6) (hown : s.vm.findClass zR_Mo = some m.cls) (hts : ∀ w ∈ zz_WS, w.before args s = true) (hr : meth.sig.returnType = (some .int)) (hlocks : meth.locks = false) (out : (Int32 × St)) : ∀ (σ : St) (x1 x2 x3 x4 : Int32) (H : Heap) (locs : List Loc) (ls : Array Slot), zz_X D vwCl (zz_tys cI cZ) A s H locs ((wM q cI cZ) σ) → lv_has ls 6 [(0, .ref (q 0)), (1, .int x1), (2, .int x2), (3, .int x3), (4, .int x4)] → zf_Mo_perform_b100 σ x1 x2 x3 x4 = some out → W p l e zm_Mo_perform s m args below meth c H locs 0 0 (MQ below (zq_I D vwCl (zz_tys cI cZ) (wM q cI cZ) A out) args s 0 0 A) (F0 m 100 ls []) := by
  intro σ x1 x2 x3 x4 H locs ls X hl hf
  rw [zf_Mo_perform_b100] at hf
  refine lv_iload_n hx hb zd_Mo_perform_100 rfl (lv_at hl 1 rfl) ?_
  refine lv_bipush (v := 13) hx hb zd_Mo_perform_101 (by decide) ?_
  refine lv_icmp_ne (tgt := 136) hx hb zd_Mo_perform_103 (by decide) (fun g19 => ?_) (fun g19 => ?_)
  · rw [if_neg g19] at hf
    refine lv_iload_n hx hb zd_Mo_perform_136 rfl (lv_at hl 1 rfl) ?_
    refine lv_bipush (v := 14) hx hb zd_Mo_perform_137 (by decide) ?_
    refine lv_icmp_ne (tgt := 172) hx hb zd_Mo_perform_139 (by decide) (fun g17 => ?_) (fun g17 => ?_)
    · rw [if_neg g17] at hf
      refine lv_iload_n hx hb zd_Mo_perform_172 rfl (lv_at hl 1 rfl) ?_
      refine lv_bipush (v := 15) hx hb zd_Mo_perform_173 (by decide) ?_
      refine lv_icmp_ne (tgt := 192) hx hb zd_Mo_perform_175 (by decide) (fun g15 => ?_) (fun g15 => ?_)
      · rw [if_neg g15] at hf
        exact zw_Mo_perform_b192 hx hb hml hown hts hr hlocks out σ x1 x2 x3 x4 _ _ _ X hl hf
      · rw [if_pos g15] at hf
        refine lv_aload_n hx hb zd_Mo_perform_178 rfl (lv_at hl 0 rfl) ?_
        refine lv_aload_n hx hb zd_Mo_perform_179 rfl (lv_at hl 0 rfl) ?_
        refine zg_Mo_d hx hb hts hown X zd_Mo_perform_180 ?_
        refine lv_iload_n hx hb zd_Mo_perform_183 rfl (lv_at hl 2 rfl) ?_
        obtain ⟨hin, hf⟩ := zz_ck_some hf
        refine za_Mo_d hx hb X hin zd_Mo_perform_184 ?_
        refine lv_iload hx hb zd_Mo_perform_185 (lv_at hl 4 rfl) ?_
        refine lv_bipush (v := 15) hx hb zd_Mo_perform_187 (by decide) ?_
        obtain ⟨u13, h14, hf⟩ := Option.bind_eq_some_iff.mp hf
        refine zr_cvV (As := [.int (σ 1 x2.toNatClampNeg), .int x4, .int (15 : Int32)]) (rest := []) (q0 := 0) (ci := 9) hx hb hml hown hts hl.1 X (zk_Mo_put l D q cI cZ h14) zkw_Mo_put zl_Mo_98 rfl rfl (Nat.le_of_ble_eq_true rfl) rfl rfl ⟨rfl, rfl⟩ ⟨Nat.le_of_ble_eq_true rfl, Nat.le_of_ble_eq_true rfl⟩ zd_Mo_perform_189 (fun H locs X => ?_)
        exact zw_Mo_perform_b192 hx hb hml hown hts hr hlocks out u13 x1 x2 x3 x4 _ _ _ X hl hf
    · rw [if_pos g17] at hf
      refine lv_iload_n hx hb zd_Mo_perform_142 rfl (lv_at hl 3 rfl) ?_
      refine lv_aload_n hx hb zd_Mo_perform_143 rfl (lv_at hl 0 rfl) ?_
      refine zg_Mo_register hx hb hts hown X zd_Mo_perform_144 ?_
      refine lv_aload_n hx hb zd_Mo_perform_147 rfl (lv_at hl 0 rfl) ?_
      refine zg_Mo_b hx hb hts hown X zd_Mo_perform_148 ?_
      refine lv_iload_n hx hb zd_Mo_perform_151 rfl (lv_at hl 2 rfl) ?_
      obtain ⟨hin, hf⟩ := zz_ck_some hf
      refine za_Mo_b hx hb X hin zd_Mo_perform_152 ?_
      obtain ⟨hin, hf⟩ := zz_ck_some hf
      refine za_Mo_register hx hb X hin zd_Mo_perform_153 ?_
      refine lv_icmp_ge (tgt := 169) hx hb zd_Mo_perform_154 (by decide) (fun g16 => ?_) (fun g16 => ?_)
      · rw [if_pos g16] at hf
        refine lv_iload hx hb zd_Mo_perform_169 (lv_at hl 4 rfl) ?_
        exact zr_iret hx hb hr hlocks X (Option.some.inj hf) zd_Mo_perform_171
      · rw [if_neg g16] at hf
        refine lv_aload_n hx hb zd_Mo_perform_157 rfl (lv_at hl 0 rfl) ?_
        refine zg_Mo_n hx hb hts hown X zd_Mo_perform_158 ?_
        refine lv_iload_n hx hb zd_Mo_perform_161 rfl (lv_at hl 2 rfl) ?_
        obtain ⟨hin, hf⟩ := zz_ck_some hf
        refine za_Mo_n hx hb X hin zd_Mo_perform_162 ?_
        refine lv_bipush (v := 31) hx hb zd_Mo_perform_163 (by decide) ?_
        refine lv_iand hx hb zd_Mo_perform_165 ?_
        refine lv_goto (tgt := 171) hx hb zd_Mo_perform_166 (by decide) ?_
        exact zr_iret hx hb hr hlocks X (Option.some.inj hf) zd_Mo_perform_171
  · rw [if_pos g19] at hf
    refine lv_iload_n hx hb zd_Mo_perform_106 rfl (lv_at hl 3 rfl) ?_
    refine lv_aload_n hx hb zd_Mo_perform_107 rfl (lv_at hl 0 rfl) ?_
    refine zg_Mo_register hx hb hts hown X zd_Mo_perform_108 ?_
    refine lv_aload_n hx hb zd_Mo_perform_111 rfl (lv_at hl 0 rfl) ?_
    refine zg_Mo_b hx hb hts hown X zd_Mo_perform_112 ?_
    refine lv_iload_n hx hb zd_Mo_perform_115 rfl (lv_at hl 2 rfl) ?_
    obtain ⟨hin, hf⟩ := zz_ck_some hf
    refine za_Mo_b hx hb X hin zd_Mo_perform_116 ?_
    obtain ⟨hin, hf⟩ := zz_ck_some hf
    refine za_Mo_register hx hb X hin zd_Mo_perform_117 ?_
    refine lv_icmp_ne (tgt := 133) hx hb zd_Mo_perform_118 (by decide) (fun g18 => ?_) (fun g18 => ?_)
    · rw [if_neg g18] at hf
      refine lv_iload hx hb zd_Mo_perform_133 (lv_at hl 4 rfl) ?_
      exact zr_iret hx hb hr hlocks X (Option.some.inj hf) zd_Mo_perform_135
    · rw [if_pos g18] at hf
      refine lv_aload_n hx hb zd_Mo_perform_121 rfl (lv_at hl 0 rfl) ?_
      refine zg_Mo_n hx hb hts hown X zd_Mo_perform_122 ?_
      refine lv_iload_n hx hb zd_Mo_perform_125 rfl (lv_at hl 2 rfl) ?_
      obtain ⟨hin, hf⟩ := zz_ck_some hf
      refine za_Mo_n hx hb X hin zd_Mo_perform_126 ?_
      refine lv_bipush (v := 31) hx hb zd_Mo_perform_127 (by decide) ?_
      refine lv_iand hx hb zd_Mo_perform_129 ?_
      refine lv_goto (tgt := 135) hx hb zd_Mo_perform_130 (by decide) ?_
      exact zr_iret hx hb hr hlocks X (Option.some.inj hf) zd_Mo_perform_135

set_option maxRecDepth 100000 in
set_option maxHeartbeats 4000000 in
theorem zw_Mo_perform_b89 {p : Program} {l : Launch} {e : Env} {s : State} {m : MethodId} {args : Array Value} {below : List Frame} {meth : Method} {c : Code} {D : va_G} {q : Nat → Nat} {cI cZ : ClassId} {A : Nat → Prop} (hx : p.tables.exec = Jvm.exec) (hb : c.code = zc_Mo_perform) (hml : c.maxLocals = 6) (hown : s.vm.findClass zR_Mo = some m.cls) (hts : ∀ w ∈ zz_WS, w.before args s = true) (hr : meth.sig.returnType = (some .int)) (hlocks : meth.locks = false) (out : (Int32 × St)) : ∀ (σ : St) (x1 x2 x3 x4 x5 : Int32) (H : Heap) (locs : List Loc) (ls : Array Slot), zz_X D vwCl (zz_tys cI cZ) A s H locs ((wM q cI cZ) σ) → lv_has ls 6 [(0, .ref (q 0)), (1, .int x1), (2, .int x2), (3, .int x3), (4, .int x4), (5, .int x5)] → zf_Mo_perform_b89 σ x1 x2 x3 x4 x5 = some out → W p l e zm_Mo_perform s m args below meth c H locs 0 0 (MQ below (zq_I D vwCl (zz_tys cI cZ) (wM q cI cZ) A out) args s 0 0 A) (F0 m 89 ls []) := by
  intro σ x1 x2 x3 x4 x5 H locs ls X hl hf
  rw [zf_Mo_perform_b89] at hf
  refine lv_iload hx hb zd_Mo_perform_89 (lv_at hl 5 rfl) ?_
  refine lv_if_eq (tgt := 100) hx hb zd_Mo_perform_91 (by decide) (fun g22 => ?_) (fun g22 => ?_)
  · rw [if_pos g22] at hf
    exact zw_Mo_perform_b100 hx hb hml hown hts hr hlocks out σ x1 x2 x3 x4 _ _ _ X (lv_sub hl [0, 1, 2, 3, 4] rfl) hf
  · rw [if_neg g22] at hf
    refine lv_aload_n hx hb zd_Mo_perform_94 rfl (lv_at hl 0 rfl) ?_
    refine lv_iconst (v := 3) hx hb zd_Mo_perform_95 (by decide) ?_
    refine lv_iload_n hx hb zd_Mo_perform_96 rfl (lv_at hl 3 rfl) ?_
    obtain ⟨u20, h21, hf⟩ := Option.bind_eq_some_iff.mp hf
    refine zr_cvV (As := [.int (3 : Int32), .int x3]) (rest := []) (q0 := 0) (ci := 9) hx hb hml hown hts hl.1 X (zk_Mo_note l D q cI cZ h21) zkw_Mo_note zl_Mo_112 rfl rfl (Nat.le_of_ble_eq_true rfl) rfl rfl ⟨rfl, rfl⟩ ⟨Nat.le_of_ble_eq_true rfl, Nat.le_of_ble_eq_true rfl⟩ zd_Mo_perform_97 (fun H locs X => ?_)
    exact zw_Mo_perform_b100 hx hb hml hown hts hr hlocks out u20 x1 x2 x3 x4 _ _ _ X (lv_sub hl [0, 1, 2, 3, 4] rfl) hf

set_option maxRecDepth 100000 in
set_option maxHeartbeats 4000000 in
theorem zw_Mo_perform_b64 {p : Program} {l : Launch} {e : Env} {s : State} {m : MethodId} {args : Array Value} {below : List Frame} {meth : Method} {c : Code} {D : va_G} {q : Nat → Nat} {cI cZ : ClassId} {A : Nat → Prop} (hx : p.tables.exec = Jvm.exec) (hb : c.code = zc_Mo_perform) (hml : c.maxLocals = 6) (hown : s.vm.findClass zR_Mo = some m.cls) (hts : ∀ w ∈ zz_WS, w.before args s = true) (hr : meth.sig.returnType = (some .int)) (hlocks : meth.locks = false) (out : (Int32 × St)) : ∀ (σ : St) (x1 x2 x3 x4 : Int32) (H : Heap) (locs : List Loc) (ls : Array Slot), zz_X D vwCl (zz_tys cI cZ) A s H locs ((wM q cI cZ) σ) → lv_has ls 6 [(0, .ref (q 0)), (1, .int x1), (2, .int x2), (3, .int x3), (4, .int x4)] → zf_Mo_perform_b64 σ x1 x2 x3 x4 = some out → W p l e zm_Mo_perform s m args below meth c H locs 0 0 (MQ below (zq_I D vwCl (zz_tys cI cZ) (wM q cI cZ) A out) args s 0 0 A) (F0 m 64 ls []) := by
  intro σ x1 x2 x3 x4 H locs ls X hl hf
  rw [zf_Mo_perform_b64] at hf
  refine lv_iconst (v := 1) hx hb zd_Mo_perform_64 (by decide) ?_
  refine lv_goto (tgt := 69) hx hb zd_Mo_perform_65 (by decide) ?_
  refine lv_istore (lv' := [(5, .int (1 : Int32)), (0, .ref (q 0)), (1, .int x1), (2, .int x2), (3, .int x3), (4, .int x4)]) hx hb zd_Mo_perform_69 hl (by decide) rfl (fun ls hl => ?_)
  refine lv_iload_n hx hb zd_Mo_perform_71 rfl (lv_at hl 2 rfl) ?_
  refine lv_bipush (v := 13) hx hb zd_Mo_perform_72 (by decide) ?_
  refine lv_icmp_eq (tgt := 89) hx hb zd_Mo_perform_74 (by decide) (fun g25 => ?_) (fun g25 => ?_)
  · rw [if_pos g25] at hf
    exact zw_Mo_perform_b89 hx hb hml hown hts hr hlocks out σ x1 x2 x3 x4 (1 : Int32) _ _ _ X (lv_sub hl [1, 2, 3, 4, 5, 0] rfl) hf
  · rw [if_neg g25] at hf
    refine lv_iload_n hx hb zd_Mo_perform_77 rfl (lv_at hl 2 rfl) ?_
    refine lv_bipush (v := 14) hx hb zd_Mo_perform_78 (by decide) ?_
    refine lv_icmp_eq (tgt := 89) hx hb zd_Mo_perform_80 (by decide) (fun g24 => ?_) (fun g24 => ?_)
    · rw [if_pos g24] at hf
      exact zw_Mo_perform_b89 hx hb hml hown hts hr hlocks out σ x1 x2 x3 x4 (1 : Int32) _ _ _ X (lv_sub hl [1, 2, 3, 4, 5, 0] rfl) hf
    · rw [if_neg g24] at hf
      refine lv_iload_n hx hb zd_Mo_perform_83 rfl (lv_at hl 2 rfl) ?_
      refine lv_bipush (v := 15) hx hb zd_Mo_perform_84 (by decide) ?_
      refine lv_icmp_le (tgt := 100) hx hb zd_Mo_perform_86 (by decide) (fun g23 => ?_) (fun g23 => ?_)
      · rw [if_pos g23] at hf
        exact zw_Mo_perform_b100 hx hb hml hown hts hr hlocks out σ x1 x2 x3 x4 _ _ _ X (lv_sub hl [1, 2, 3, 4, 5] rfl) hf
      · rw [if_neg g23] at hf
        exact zw_Mo_perform_b89 hx hb hml hown hts hr hlocks out σ x1 x2 x3 x4 (1 : Int32) _ _ _ X (lv_sub hl [1, 2, 3, 4, 5, 0] rfl) hf

set_option maxRecDepth 100000 in
set_option maxHeartbeats 4000000 in
theorem zw_Mo_perform_b68 {p : Program} {l : Launch} {e : Env} {s : State} {m : MethodId} {args : Array Value} {below : List Frame} {meth : Method} {c : Code} {D : va_G} {q : Nat → Nat} {cI cZ : ClassId} {A : Nat → Prop} (hx : p.tables.exec = Jvm.exec) (hb : c.code = zc_Mo_perform) (hml : c.maxLocals = 6) (hown : s.vm.findClass zR_Mo = some m.cls) (hts : ∀ w ∈ zz_WS, w.before args s = true) (hr : meth.sig.returnType = (some .int)) (hlocks : meth.locks = false) (out : (Int32 × St)) : ∀ (σ : St) (x1 x2 x3 x4 : Int32) (H : Heap) (locs : List Loc) (ls : Array Slot), zz_X D vwCl (zz_tys cI cZ) A s H locs ((wM q cI cZ) σ) → lv_has ls 6 [(0, .ref (q 0)), (1, .int x1), (2, .int x2), (3, .int x3), (4, .int x4)] → zf_Mo_perform_b68 σ x1 x2 x3 x4 = some out → W p l e zm_Mo_perform s m args below meth c H locs 0 0 (MQ below (zq_I D vwCl (zz_tys cI cZ) (wM q cI cZ) A out) args s 0 0 A) (F0 m 68 ls []) := by
  intro σ x1 x2 x3 x4 H locs ls X hl hf
  rw [zf_Mo_perform_b68] at hf
  refine lv_iconst (v := 0) hx hb zd_Mo_perform_68 (by decide) ?_
  refine lv_istore (lv' := [(5, .int (0 : Int32)), (0, .ref (q 0)), (1, .int x1), (2, .int x2), (3, .int x3), (4, .int x4)]) hx hb zd_Mo_perform_69 hl (by decide) rfl (fun ls hl => ?_)
  refine lv_iload_n hx hb zd_Mo_perform_71 rfl (lv_at hl 2 rfl) ?_
  refine lv_bipush (v := 13) hx hb zd_Mo_perform_72 (by decide) ?_
  refine lv_icmp_eq (tgt := 89) hx hb zd_Mo_perform_74 (by decide) (fun g28 => ?_) (fun g28 => ?_)
  · rw [if_pos g28] at hf
    exact zw_Mo_perform_b89 hx hb hml hown hts hr hlocks out σ x1 x2 x3 x4 (0 : Int32) _ _ _ X (lv_sub hl [1, 2, 3, 4, 5, 0] rfl) hf
  · rw [if_neg g28] at hf
    refine lv_iload_n hx hb zd_Mo_perform_77 rfl (lv_at hl 2 rfl) ?_
    refine lv_bipush (v := 14) hx hb zd_Mo_perform_78 (by decide) ?_
    refine lv_icmp_eq (tgt := 89) hx hb zd_Mo_perform_80 (by decide) (fun g27 => ?_) (fun g27 => ?_)
    · rw [if_pos g27] at hf
      exact zw_Mo_perform_b89 hx hb hml hown hts hr hlocks out σ x1 x2 x3 x4 (0 : Int32) _ _ _ X (lv_sub hl [1, 2, 3, 4, 5, 0] rfl) hf
    · rw [if_neg g27] at hf
      refine lv_iload_n hx hb zd_Mo_perform_83 rfl (lv_at hl 2 rfl) ?_
      refine lv_bipush (v := 15) hx hb zd_Mo_perform_84 (by decide) ?_
      refine lv_icmp_le (tgt := 100) hx hb zd_Mo_perform_86 (by decide) (fun g26 => ?_) (fun g26 => ?_)
      · rw [if_pos g26] at hf
        exact zw_Mo_perform_b100 hx hb hml hown hts hr hlocks out σ x1 x2 x3 x4 _ _ _ X (lv_sub hl [1, 2, 3, 4, 5] rfl) hf
      · rw [if_neg g26] at hf
        exact zw_Mo_perform_b89 hx hb hml hown hts hr hlocks out σ x1 x2 x3 x4 (0 : Int32) _ _ _ X (lv_sub hl [1, 2, 3, 4, 5, 0] rfl) hf

set_option maxRecDepth 100000 in
set_option maxHeartbeats 4000000 in
theorem zw_Mo_perform_b48 {p : Program} {l : Launch} {e : Env} {s : State} {m : MethodId} {args : Array Value} {below : List Frame} {meth : Method} {c : Code} {D : va_G} {q : Nat → Nat} {cI cZ : ClassId} {A : Nat → Prop} (hx : p.tables.exec = Jvm.exec) (hb : c.code = zc_Mo_perform) (hml : c.maxLocals = 6) (hown : s.vm.findClass zR_Mo = some m.cls) (hts : ∀ w ∈ zz_WS, w.before args s = true) (hr : meth.sig.returnType = (some .int)) (hlocks : meth.locks = false) (out : (Int32 × St)) : ∀ (σ : St) (x1 x2 x3 x4 : Int32) (H : Heap) (locs : List Loc) (ls : Array Slot), zz_X D vwCl (zz_tys cI cZ) A s H locs ((wM q cI cZ) σ) → lv_has ls 6 [(0, .ref (q 0)), (1, .int x1), (2, .int x2), (3, .int x3), (4, .int x4)] → zf_Mo_perform_b48 σ x1 x2 x3 x4 = some out → W p l e zm_Mo_perform s m args below meth c H locs 0 0 (MQ below (zq_I D vwCl (zz_tys cI cZ) (wM q cI cZ) A out) args s 0 0 A) (F0 m 48 ls []) := by
  intro σ x1 x2 x3 x4 H locs ls X hl hf
  rw [zf_Mo_perform_b48] at hf
  refine lv_aload_n hx hb zd_Mo_perform_48 rfl (lv_at hl 0 rfl) ?_
  refine zg_Mo_sure hx hb hts hown X zd_Mo_perform_49 ?_
  refine lv_aload_n hx hb zd_Mo_perform_52 rfl (lv_at hl 0 rfl) ?_
  refine zg_Mo_b hx hb hts hown X zd_Mo_perform_53 ?_
  refine lv_iload_n hx hb zd_Mo_perform_56 rfl (lv_at hl 2 rfl) ?_
  obtain ⟨hin, hf⟩ := zz_ck_some hf
  refine za_Mo_b hx hb X hin zd_Mo_perform_57 ?_
  obtain ⟨hin, hf⟩ := zz_ck_some hf
  refine za_Mo_sure hx hb X hin zd_Mo_perform_58 ?_
  refine lv_bipush (v := 15) hx hb zd_Mo_perform_59 (by decide) ?_
  refine lv_icmp_eq (tgt := 68) hx hb zd_Mo_perform_61 (by decide) (fun g29 => ?_) (fun g29 => ?_)
  · rw [if_pos g29] at hf
    exact zw_Mo_perform_b68 hx hb hml hown hts hr hlocks out σ x1 x2 x3 x4 _ _ _ X hl hf
  · rw [if_neg g29] at hf
    exact zw_Mo_perform_b64 hx hb hml hown hts hr hlocks out σ x1 x2 x3 x4 _ _ _ X hl hf

set_option maxRecDepth 100000 in
set_option maxHeartbeats 4000000 in
theorem zk_Mo_perform (l : Launch) (D : va_G) (q : Nat → Nat) (cI cZ : ClassId) {σ : St} {x1 x2 : Int32} {out : (Int32 × St)} (hf : zf_Mo_perform σ x1 x2 = some out) : zI l D vwCl (zz_tys cI cZ) (wM q cI cZ) zy_Mo_perform (.code zy_Mo_perform zc_Mo_perform 6 (some .int) :: zz_WS) zm_Mo_perform [.ref (q 0), .int x1, .int x2] σ out := by
  refine zI_of (by decide +kernel) (Nat.le_of_ble_eq_true rfl) (fun p e s m below meth c A ls hx hb hml hown hts hr hlocks X hl => ?_)
  have hl : lv_has ls 6 [(0, .ref (q 0)), (1, .int x1), (2, .int x2)] := hl
  unfold zf_Mo_perform at hf
  refine lv_aload_n hx hb zd_Mo_perform_0 rfl (lv_at hl 0 rfl) ?_
  refine zg_Mo_register hx hb hts hown X zd_Mo_perform_1 ?_
  refine lv_aload_n hx hb zd_Mo_perform_4 rfl (lv_at hl 0 rfl) ?_
  refine zg_Mo_a hx hb hts hown X zd_Mo_perform_5 ?_
  refine lv_iload_n hx hb zd_Mo_perform_8 rfl (lv_at hl 2 rfl) ?_
  obtain ⟨hin, hf⟩ := zz_ck_some hf
  refine za_Mo_a hx hb X hin zd_Mo_perform_9 ?_
  obtain ⟨hin, hf⟩ := zz_ck_some hf
  refine za_Mo_register hx hb X hin zd_Mo_perform_10 ?_
  refine lv_istore_n (lv' := [(3, .int (σ 8 (σ 2 x2.toNatClampNeg).toNatClampNeg)), (0, .ref (q 0)), (1, .int x1), (2, .int x2)]) hx hb zd_Mo_perform_11 rfl hl (by decide) rfl (fun ls hl => ?_)
  refine lv_iload_n hx hb zd_Mo_perform_12 rfl (lv_at hl 3 rfl) ?_
  refine lv_iconst (v := 1) hx hb zd_Mo_perform_13 (by decide) ?_
  refine lv_iadd hx hb zd_Mo_perform_14 ?_
  refine lv_bipush (v := 31) hx hb zd_Mo_perform_15 (by decide) ?_
  refine lv_iand hx hb zd_Mo_perform_17 ?_
  refine lv_istore (lv' := [(4, .int ((x2 + (1 : Int32)) &&& (31 : Int32))), (3, .int (σ 8 (σ 2 x2.toNatClampNeg).toNatClampNeg)), (0, .ref (q 0)), (1, .int x1), (2, .int x2)]) hx hb zd_Mo_perform_18 hl (by decide) rfl (fun ls hl => ?_)
  refine lv_aload_n hx hb zd_Mo_perform_20 rfl (lv_at hl 2 rfl) ?_
  refine zg_Mo_sure hx hb hts hown X zd_Mo_perform_21 ?_
  refine lv_aload_n hx hb zd_Mo_perform_24 rfl (lv_at hl 2 rfl) ?_
  refine zg_Mo_a hx hb hts hown X zd_Mo_perform_25 ?_
  refine lv_iload_n hx hb zd_Mo_perform_28 rfl (lv_at hl 4 rfl) ?_
  obtain ⟨hin, hf⟩ := zz_ck_some hf
  refine za_Mo_a hx hb X hin zd_Mo_perform_29 ?_
  obtain ⟨hin, hf⟩ := zz_ck_some hf
  refine za_Mo_sure hx hb X hin zd_Mo_perform_30 ?_
  refine lv_bipush (v := 15) hx hb zd_Mo_perform_31 (by decide) ?_
  refine lv_icmp_ne (tgt := 64) hx hb zd_Mo_perform_33 (by decide) (fun g32 => ?_) (fun g32 => ?_)
  · rw [if_neg g32] at hf
    exact zw_Mo_perform_b64 hx hb hml hown hts hr hlocks out σ x1 x2 (σ 8 (σ 2 x2.toNatClampNeg).toNatClampNeg) ((x2 + (1 : Int32)) &&& (31 : Int32)) _ _ _ X (lv_sub hl [2, 3, 4, 1, 0] rfl) hf
  · rw [if_pos g32] at hf
    refine lv_iload_n hx hb zd_Mo_perform_36 rfl (lv_at hl 3 rfl) ?_
    refine lv_bipush (v := 13) hx hb zd_Mo_perform_37 (by decide) ?_
    refine lv_icmp_eq (tgt := 48) hx hb zd_Mo_perform_39 (by decide) (fun g31 => ?_) (fun g31 => ?_)
    · rw [if_pos g31] at hf
      exact zw_Mo_perform_b48 hx hb hml hown hts hr hlocks out σ x1 x2 (σ 8 (σ 2 x2.toNatClampNeg).toNatClampNeg) ((x2 + (1 : Int32)) &&& (31 : Int32)) _ _ _ X (lv_sub hl [2, 3, 4, 1, 0] rfl) hf
    · rw [if_neg g31] at hf
      refine lv_iload_n hx hb zd_Mo_perform_42 rfl (lv_at hl 3 rfl) ?_
      refine lv_bipush (v := 14) hx hb zd_Mo_perform_43 (by decide) ?_
      refine lv_icmp_ne (tgt := 68) hx hb zd_Mo_perform_45 (by decide) (fun g30 => ?_) (fun g30 => ?_)
      · rw [if_neg g30] at hf
        exact zw_Mo_perform_b68 hx hb hml hown hts hr hlocks out σ x1 x2 (σ 8 (σ 2 x2.toNatClampNeg).toNatClampNeg) ((x2 + (1 : Int32)) &&& (31 : Int32)) _ _ _ X (lv_sub hl [2, 3, 4, 1, 0] rfl) hf
      · rw [if_pos g30] at hf
        exact zw_Mo_perform_b48 hx hb hml hown hts hr hlocks out σ x1 x2 (σ 8 (σ 2 x2.toNatClampNeg).toNatClampNeg) ((x2 + (1 : Int32)) &&& (31 : Int32)) _ _ _ X (lv_sub hl [2, 3, 4, 1, 0] rfl) hf

set_option maxRecDepth 100000 in
set_option maxHeartbeats 4000000 in
theorem zw_Mo_run_L35 {p : Program} {l : Launch} {e : Env} {s : State} {m : MethodId} {args : Array Value} {below : List Frame} {meth : Method} {c : Code} {D : va_G} {q : Nat → Nat} {cI cZ : ClassId} {A : Nat → Prop} (hx : p.tables.exec = Jvm.exec) (hb : c.code = zc_Mo_run) (hml : c.maxLocals = 6) (hown : s.vm.findClass zR_Mo = some m.cls) (hts : ∀ w ∈ zz_WS, w.before args s = true) (hr : meth.sig.returnType = (some .int)) (hlocks : meth.locks = false) (out : (Int32 × St)) (kx : St → Int32 → Option (Int32 × St)) (hkx : ∀ (σ : St) (x2 : Int32) (H : Heap) (locs : List Loc) (ls : Array Slot), zz_X D vwCl (zz_tys cI cZ) A s H locs ((wM q cI cZ) σ) → lv_has ls 6 [(2, .int x2)] → kx σ x2 = some out → W p l e zm_Mo_run s m args below meth c H locs 0 0 (MQ below (zq_I D vwCl (zz_tys cI cZ) (wM q cI cZ) A out) args s 0 0 A) (F0 m 207 ls [])) : ∀ (n : Nat) (σ : St) (x1 x2 x3 : Int32) (H : Heap) (locs : List Loc) (ls : Array Slot), zz_X D vwCl (zz_tys cI cZ) A s H locs ((wM q cI cZ) σ) → lv_has ls 6 [(0, .ref (q 0)), (1, .int x1), (2, .int x2), (3, .int x3)] → zf_Mo_run_L35 kx n σ x1 x2 x3 = some out → W p l e zm_Mo_run s m args below meth c H locs 0 0 (MQ below (zq_I D vwCl (zz_tys cI cZ) (wM q cI cZ) A out) args s 0 0 A) (F0 m 35 ls []) := by
  intro n
  induction n with
  | zero =>
    intro σ x1 x2 x3 H locs ls X hl hf
    exact absurd hf (by simp [zf_Mo_run_L35])
  | succ n ih =>
    intro σ x1 x2 x3 H locs ls X hl hf
    rw [zf_Mo_run_L35] at hf
    refine lv_iload_n hx hb zd_Mo_run_35 rfl (lv_at hl 2 rfl) ?_
    refine lv_iload_n hx hb zd_Mo_run_36 rfl (lv_at hl 1 rfl) ?_
    refine lv_icmp_ge (tgt := 207) hx hb zd_Mo_run_37 (by decide) (fun g106 => ?_) (fun g106 => ?_)
    · rw [if_pos g106] at hf
      exact hkx σ x2 _ _ _ X (lv_sub hl [2] rfl) hf
    · rw [if_neg g106] at hf
      refine lv_aload_n hx hb zd_Mo_run_40 rfl (lv_at hl 0 rfl) ?_
      refine zg_Mo_stopped hx hb hts hown X zd_Mo_run_41 ?_
      refine lv_if_ne (tgt := 207) hx hb zd_Mo_run_44 (by decide) (fun g105 => ?_) (fun g105 => ?_)
      · rw [if_neg g105] at hf
        exact hkx σ x2 _ _ _ X (lv_sub hl [2] rfl) hf
      · rw [if_pos g105] at hf
        refine lv_aload_n hx hb zd_Mo_run_47 rfl (lv_at hl 0 rfl) ?_
        refine zg_Mo_place hx hb hts hown X zd_Mo_run_48 ?_
        refine lv_istore (lv' := [(4, .int (σ 24 0)), (0, .ref (q 0)), (1, .int x1), (2, .int x2), (3, .int x3)]) hx hb zd_Mo_run_51 hl (by decide) rfl (fun ls hl => ?_)
        refine lv_aload_n hx hb zd_Mo_run_53 rfl (lv_at hl 1 rfl) ?_
        refine zg_Mo_op hx hb hts hown X zd_Mo_run_54 ?_
        refine lv_iload hx hb zd_Mo_run_57 (lv_at hl 0 rfl) ?_
        obtain ⟨hin, hf⟩ := zz_ck_some hf
        refine za_Mo_op hx hb X hin zd_Mo_run_59 ?_
        refine lv_istore (lv' := [(5, .int (σ 0 (σ 24 0).toNatClampNeg)), (4, .int (σ 24 0)), (0, .ref (q 0)), (1, .int x1), (2, .int x2), (3, .int x3)]) hx hb zd_Mo_run_60 hl (by decide) rfl (fun ls hl => ?_)
        refine lv_iload_n hx hb zd_Mo_run_62 rfl (lv_at hl 5 rfl) ?_
        refine lv_if_ge (tgt := 101) hx hb zd_Mo_run_63 (by decide) (fun g104 => ?_) (fun g104 => ?_)
        · rw [if_pos g104] at hf
          refine lv_iload hx hb zd_Mo_run_101 (lv_at hl 0 rfl) ?_
          refine lv_bipush (v := 9) hx hb zd_Mo_run_103 (by decide) ?_
          refine lv_bipush (v := 12) hx hb zd_Mo_run_105 (by decide) ?_
          obtain ⟨r3, h34, hf⟩ := Option.bind_eq_some_iff.mp hf
          refine zr_csP (As := [.int (σ 0 (σ 24 0).toNatClampNeg), .int (9 : Int32), .int (12 : Int32)]) (rest := []) hx hb hml hown hts hl.1 X (zk_Mo_in l D q cI cZ h34) zkw_Mo_in zl_Mo_79 rfl rfl (Nat.le_of_ble_eq_true rfl) ⟨rfl, rfl⟩ ⟨Nat.le_of_ble_eq_true rfl, Nat.le_of_ble_eq_true rfl⟩ zd_Mo_run_107 (fun H locs X => ?_)
          refine lv_if_eq (tgt := 136) hx hb zd_Mo_run_110 (by decide) (fun g33 => ?_) (fun g33 => ?_)
          · rw [if_pos g33] at hf
            refine lv_iinc (v := (x2 + (1 : Int32))) (lv' := [(2, .int (x2 + (1 : Int32))), (5, .int (σ 0 (σ 24 0).toNatClampNeg)), (4, .int (σ 24 0)), (0, .ref (q 0)), (1, .int x1), (3, .int x3)]) hx hb zd_Mo_run_136 hl (k := 4) rfl rfl (by decide) rfl (fun ls hl => ?_)
            refine lv_aload_n hx hb zd_Mo_run_139 rfl (lv_at hl 3 rfl) ?_
            refine lv_dup hx hb zd_Mo_run_140 rfl ?_
            refine zg_Mo_done hx hb hts hown X zd_Mo_run_141 ?_
            refine lv_iconst (v := 1) hx hb zd_Mo_run_144 (by decide) ?_
            refine lv_iadd hx hb zd_Mo_run_145 ?_
            refine zp_Mo_done hx hb hts hown X zd_Mo_run_146 (fun H locs X => ?_)
            refine lv_iload hx hb zd_Mo_run_149 (lv_at hl 2 rfl) ?_
            refine lv_iload_n hx hb zd_Mo_run_151 rfl (lv_at hl 5 rfl) ?_
            refine lv_icmp_ne (tgt := 157) hx hb zd_Mo_run_152 (by decide) (fun g16 => ?_) (fun g16 => ?_)
            · rw [if_neg g16] at hf
              refine lv_iload hx hb zd_Mo_run_157 (lv_at hl 1 rfl) ?_
              refine lv_if_ne (tgt := 170) hx hb zd_Mo_run_159 (by decide) (fun g9 => ?_) (fun g9 => ?_)
              · rw [if_neg g9] at hf
                refine lv_aload_n hx hb zd_Mo_run_170 rfl (lv_at hl 3 rfl) ?_
                refine lv_iload hx hb zd_Mo_run_171 (lv_at hl 1 rfl) ?_
                refine lv_bipush (v := 9) hx hb zd_Mo_run_173 (by decide) ?_
                refine lv_bipush (v := 12) hx hb zd_Mo_run_175 (by decide) ?_
                obtain ⟨r4, h8, hf⟩ := Option.bind_eq_some_iff.mp hf
                refine zr_csP (As := [.int (σ 0 (σ 24 0).toNatClampNeg), .int (9 : Int32), .int (12 : Int32)]) (rest := [.ref (q 0)]) hx hb hml hown hts hl.1 X (zk_Mo_in l D q cI cZ h8) zkw_Mo_in zl_Mo_79 rfl rfl (Nat.le_of_ble_eq_true rfl) ⟨rfl, rfl⟩ ⟨Nat.le_of_ble_eq_true rfl, Nat.le_of_ble_eq_true rfl⟩ zd_Mo_run_177 (fun H locs X => ?_)
                refine lv_if_eq (tgt := 193) hx hb zd_Mo_run_180 (by decide) (fun g7 => ?_) (fun g7 => ?_)
                · rw [if_pos g7] at hf
                  refine lv_aload_n hx hb zd_Mo_run_193 rfl (lv_at hl 3 rfl) ?_
                  refine lv_iload hx hb zd_Mo_run_194 (lv_at hl 1 rfl) ?_
                  refine lv_iload hx hb zd_Mo_run_196 (lv_at hl 2 rfl) ?_
                  obtain ⟨u5, h6, hf⟩ := Option.bind_eq_some_iff.mp hf
                  refine zr_cvI (As := [.int (σ 0 (σ 24 0).toNatClampNeg), .int (σ 24 0)]) (rest := [.ref (q 0)]) (q0 := 0) (ci := 9) hx hb hml hown hts hl.1 X (zk_Mo_perform l D q cI cZ h6) zkw_Mo_perform zl_Mo_170 rfl rfl (Nat.le_of_ble_eq_true rfl) rfl rfl ⟨rfl, rfl⟩ ⟨Nat.le_of_ble_eq_true rfl, Nat.le_of_ble_eq_true rfl⟩ zd_Mo_run_198 (fun H locs X => ?_)
                  refine zp_Mo_place hx hb hts hown X zd_Mo_run_201 (fun H locs X => ?_)
                  refine lv_goto (tgt := 35) hx hb zd_Mo_run_204 (by decide) ?_
                  exact ih (zz_put u5.2 24 0 u5.1) x1 (x2 + (1 : Int32)) x3 _ _ _ X (lv_sub hl [3, 4, 0, 5] rfl) hf
                · rw [if_neg g7] at hf
                  refine lv_iload hx hb zd_Mo_run_183 (lv_at hl 2 rfl) ?_
                  refine lv_iconst (v := 1) hx hb zd_Mo_run_185 (by decide) ?_
                  refine lv_iadd hx hb zd_Mo_run_186 ?_
                  refine lv_bipush (v := 31) hx hb zd_Mo_run_187 (by decide) ?_
                  refine lv_iand hx hb zd_Mo_run_189 ?_
                  refine lv_goto (tgt := 201) hx hb zd_Mo_run_190 (by decide) ?_
                  refine zp_Mo_place hx hb hts hown X zd_Mo_run_201 (fun H locs X => ?_)
                  refine lv_goto (tgt := 35) hx hb zd_Mo_run_204 (by decide) ?_
                  exact ih (zz_put (zz_put σ 25 0 ((σ 25 0) + (1 : Int32))) 24 0 (((σ 24 0) + (1 : Int32)) &&& (31 : Int32))) x1 (x2 + (1 : Int32)) x3 _ _ _ X (lv_sub hl [3, 4, 0, 5] rfl) hf
              · rw [if_pos g9] at hf
                refine lv_aload_n hx hb zd_Mo_run_162 rfl (lv_at hl 3 rfl) ?_
                refine lv_iconst (v := 1) hx hb zd_Mo_run_163 (by decide) ?_
                obtain ⟨hz, hf⟩ := zz_kz_some hf
                refine zp_Mo_stopped hx hb hts hown X hz zd_Mo_run_164 (fun H locs X => ?_)
                refine lv_goto (tgt := 204) hx hb zd_Mo_run_167 (by decide) ?_
                refine lv_goto (tgt := 35) hx hb zd_Mo_run_204 (by decide) ?_
                exact ih (zz_put (zz_put σ 25 0 ((σ 25 0) + (1 : Int32))) 28 0 (1 : Int32)) x1 (x2 + (1 : Int32)) x3 _ _ _ X (lv_sub hl [3, 4, 0, 5] rfl) hf
            · rw [if_pos g16] at hf
              refine lv_iconst (v := -1) hx hb zd_Mo_run_155 (by decide) ?_
              refine lv_istore_n (lv' := [(3, .int (-1 : Int32)), (2, .int (x2 + (1 : Int32))), (5, .int (σ 0 (σ 24 0).toNatClampNeg)), (4, .int (σ 24 0)), (0, .ref (q 0)), (1, .int x1)]) hx hb zd_Mo_run_156 rfl hl (by decide) rfl (fun ls hl => ?_)
              refine lv_iload hx hb zd_Mo_run_157 (lv_at hl 2 rfl) ?_
              refine lv_if_ne (tgt := 170) hx hb zd_Mo_run_159 (by decide) (fun g15 => ?_) (fun g15 => ?_)
              · rw [if_neg g15] at hf
                refine lv_aload_n hx hb zd_Mo_run_170 rfl (lv_at hl 4 rfl) ?_
                refine lv_iload hx hb zd_Mo_run_171 (lv_at hl 2 rfl) ?_
                refine lv_bipush (v := 9) hx hb zd_Mo_run_173 (by decide) ?_
                refine lv_bipush (v := 12) hx hb zd_Mo_run_175 (by decide) ?_
                obtain ⟨r10, h14, hf⟩ := Option.bind_eq_some_iff.mp hf
                refine zr_csP (As := [.int (σ 0 (σ 24 0).toNatClampNeg), .int (9 : Int32), .int (12 : Int32)]) (rest := [.ref (q 0)]) hx hb hml hown hts hl.1 X (zk_Mo_in l D q cI cZ h14) zkw_Mo_in zl_Mo_79 rfl rfl (Nat.le_of_ble_eq_true rfl) ⟨rfl, rfl⟩ ⟨Nat.le_of_ble_eq_true rfl, Nat.le_of_ble_eq_true rfl⟩ zd_Mo_run_177 (fun H locs X => ?_)
                refine lv_if_eq (tgt := 193) hx hb zd_Mo_run_180 (by decide) (fun g13 => ?_) (fun g13 => ?_)
                · rw [if_pos g13] at hf
                  refine lv_aload_n hx hb zd_Mo_run_193 rfl (lv_at hl 4 rfl) ?_
                  refine lv_iload hx hb zd_Mo_run_194 (lv_at hl 2 rfl) ?_
                  refine lv_iload hx hb zd_Mo_run_196 (lv_at hl 3 rfl) ?_
                  obtain ⟨u11, h12, hf⟩ := Option.bind_eq_some_iff.mp hf
                  refine zr_cvI (As := [.int (σ 0 (σ 24 0).toNatClampNeg), .int (σ 24 0)]) (rest := [.ref (q 0)]) (q0 := 0) (ci := 9) hx hb hml hown hts hl.1 X (zk_Mo_perform l D q cI cZ h12) zkw_Mo_perform zl_Mo_170 rfl rfl (Nat.le_of_ble_eq_true rfl) rfl rfl ⟨rfl, rfl⟩ ⟨Nat.le_of_ble_eq_true rfl, Nat.le_of_ble_eq_true rfl⟩ zd_Mo_run_198 (fun H locs X => ?_)
                  refine zp_Mo_place hx hb hts hown X zd_Mo_run_201 (fun H locs X => ?_)
                  refine lv_goto (tgt := 35) hx hb zd_Mo_run_204 (by decide) ?_
                  exact ih (zz_put u11.2 24 0 u11.1) x1 (x2 + (1 : Int32)) (-1 : Int32) _ _ _ X (lv_sub hl [4, 5, 1, 0] rfl) hf
                · rw [if_neg g13] at hf
                  refine lv_iload hx hb zd_Mo_run_183 (lv_at hl 3 rfl) ?_
                  refine lv_iconst (v := 1) hx hb zd_Mo_run_185 (by decide) ?_
                  refine lv_iadd hx hb zd_Mo_run_186 ?_
                  refine lv_bipush (v := 31) hx hb zd_Mo_run_187 (by decide) ?_
                  refine lv_iand hx hb zd_Mo_run_189 ?_
                  refine lv_goto (tgt := 201) hx hb zd_Mo_run_190 (by decide) ?_
                  refine zp_Mo_place hx hb hts hown X zd_Mo_run_201 (fun H locs X => ?_)
                  refine lv_goto (tgt := 35) hx hb zd_Mo_run_204 (by decide) ?_
                  exact ih (zz_put (zz_put σ 25 0 ((σ 25 0) + (1 : Int32))) 24 0 (((σ 24 0) + (1 : Int32)) &&& (31 : Int32))) x1 (x2 + (1 : Int32)) (-1 : Int32) _ _ _ X (lv_sub hl [4, 5, 1, 0] rfl) hf
              · rw [if_pos g15] at hf
                refine lv_aload_n hx hb zd_Mo_run_162 rfl (lv_at hl 4 rfl) ?_
                refine lv_iconst (v := 1) hx hb zd_Mo_run_163 (by decide) ?_
                obtain ⟨hz, hf⟩ := zz_kz_some hf
                refine zp_Mo_stopped hx hb hts hown X hz zd_Mo_run_164 (fun H locs X => ?_)
                refine lv_goto (tgt := 204) hx hb zd_Mo_run_167 (by decide) ?_
                refine lv_goto (tgt := 35) hx hb zd_Mo_run_204 (by decide) ?_
                exact ih (zz_put (zz_put σ 25 0 ((σ 25 0) + (1 : Int32))) 28 0 (1 : Int32)) x1 (x2 + (1 : Int32)) (-1 : Int32) _ _ _ X (lv_sub hl [4, 5, 1, 0] rfl) hf
          · rw [if_neg g33] at hf
            refine lv_aload_n hx hb zd_Mo_run_113 rfl (lv_at hl 2 rfl) ?_
            refine lv_iload hx hb zd_Mo_run_114 (lv_at hl 0 rfl) ?_
            refine lv_iload hx hb zd_Mo_run_116 (lv_at hl 1 rfl) ?_
            obtain ⟨u17, h32, hf⟩ := Option.bind_eq_some_iff.mp hf
            refine zr_cvI (As := [.int (σ 0 (σ 24 0).toNatClampNeg), .int (σ 24 0)]) (rest := []) (q0 := 0) (ci := 9) hx hb hml hown hts hl.1 X (zk_Mo_access l D q cI cZ h32) zkw_Mo_access zl_Mo_164 rfl rfl (Nat.le_of_ble_eq_true rfl) rfl rfl ⟨rfl, rfl⟩ ⟨Nat.le_of_ble_eq_true rfl, Nat.le_of_ble_eq_true rfl⟩ zd_Mo_run_118 (fun H locs X => ?_)
            refine lv_if_ne (tgt := 136) hx hb zd_Mo_run_121 (by decide) (fun g31 => ?_) (fun g31 => ?_)
            · rw [if_neg g31] at hf
              refine lv_iinc (v := (x2 + (1 : Int32))) (lv' := [(2, .int (x2 + (1 : Int32))), (5, .int (σ 0 (σ 24 0).toNatClampNeg)), (4, .int (σ 24 0)), (0, .ref (q 0)), (1, .int x1), (3, .int x3)]) hx hb zd_Mo_run_136 hl (k := 4) rfl rfl (by decide) rfl (fun ls hl => ?_)
              refine lv_aload_n hx hb zd_Mo_run_139 rfl (lv_at hl 3 rfl) ?_
              refine lv_dup hx hb zd_Mo_run_140 rfl ?_
              refine zg_Mo_done hx hb hts hown X zd_Mo_run_141 ?_
              refine lv_iconst (v := 1) hx hb zd_Mo_run_144 (by decide) ?_
              refine lv_iadd hx hb zd_Mo_run_145 ?_
              refine zp_Mo_done hx hb hts hown X zd_Mo_run_146 (fun H locs X => ?_)
              refine lv_iload hx hb zd_Mo_run_149 (lv_at hl 2 rfl) ?_
              refine lv_iload_n hx hb zd_Mo_run_151 rfl (lv_at hl 5 rfl) ?_
              refine lv_icmp_ne (tgt := 157) hx hb zd_Mo_run_152 (by decide) (fun g30 => ?_) (fun g30 => ?_)
              · rw [if_neg g30] at hf
                refine lv_iload hx hb zd_Mo_run_157 (lv_at hl 1 rfl) ?_
                refine lv_if_ne (tgt := 170) hx hb zd_Mo_run_159 (by decide) (fun g23 => ?_) (fun g23 => ?_)
                · rw [if_neg g23] at hf
                  refine lv_aload_n hx hb zd_Mo_run_170 rfl (lv_at hl 3 rfl) ?_
                  refine lv_iload hx hb zd_Mo_run_171 (lv_at hl 1 rfl) ?_
                  refine lv_bipush (v := 9) hx hb zd_Mo_run_173 (by decide) ?_
                  refine lv_bipush (v := 12) hx hb zd_Mo_run_175 (by decide) ?_
                  obtain ⟨r18, h22, hf⟩ := Option.bind_eq_some_iff.mp hf
                  refine zr_csP (As := [.int (σ 0 (σ 24 0).toNatClampNeg), .int (9 : Int32), .int (12 : Int32)]) (rest := [.ref (q 0)]) hx hb hml hown hts hl.1 X (zk_Mo_in l D q cI cZ h22) zkw_Mo_in zl_Mo_79 rfl rfl (Nat.le_of_ble_eq_true rfl) ⟨rfl, rfl⟩ ⟨Nat.le_of_ble_eq_true rfl, Nat.le_of_ble_eq_true rfl⟩ zd_Mo_run_177 (fun H locs X => ?_)
                  refine lv_if_eq (tgt := 193) hx hb zd_Mo_run_180 (by decide) (fun g21 => ?_) (fun g21 => ?_)
                  · rw [if_pos g21] at hf
                    refine lv_aload_n hx hb zd_Mo_run_193 rfl (lv_at hl 3 rfl) ?_
                    refine lv_iload hx hb zd_Mo_run_194 (lv_at hl 1 rfl) ?_
                    refine lv_iload hx hb zd_Mo_run_196 (lv_at hl 2 rfl) ?_
                    obtain ⟨u19, h20, hf⟩ := Option.bind_eq_some_iff.mp hf
                    refine zr_cvI (As := [.int (σ 0 (σ 24 0).toNatClampNeg), .int (σ 24 0)]) (rest := [.ref (q 0)]) (q0 := 0) (ci := 9) hx hb hml hown hts hl.1 X (zk_Mo_perform l D q cI cZ h20) zkw_Mo_perform zl_Mo_170 rfl rfl (Nat.le_of_ble_eq_true rfl) rfl rfl ⟨rfl, rfl⟩ ⟨Nat.le_of_ble_eq_true rfl, Nat.le_of_ble_eq_true rfl⟩ zd_Mo_run_198 (fun H locs X => ?_)
                    refine zp_Mo_place hx hb hts hown X zd_Mo_run_201 (fun H locs X => ?_)
                    refine lv_goto (tgt := 35) hx hb zd_Mo_run_204 (by decide) ?_
                    exact ih (zz_put u19.2 24 0 u19.1) x1 (x2 + (1 : Int32)) x3 _ _ _ X (lv_sub hl [3, 4, 0, 5] rfl) hf
                  · rw [if_neg g21] at hf
                    refine lv_iload hx hb zd_Mo_run_183 (lv_at hl 2 rfl) ?_
                    refine lv_iconst (v := 1) hx hb zd_Mo_run_185 (by decide) ?_
                    refine lv_iadd hx hb zd_Mo_run_186 ?_
                    refine lv_bipush (v := 31) hx hb zd_Mo_run_187 (by decide) ?_
                    refine lv_iand hx hb zd_Mo_run_189 ?_
                    refine lv_goto (tgt := 201) hx hb zd_Mo_run_190 (by decide) ?_
                    refine zp_Mo_place hx hb hts hown X zd_Mo_run_201 (fun H locs X => ?_)
                    refine lv_goto (tgt := 35) hx hb zd_Mo_run_204 (by decide) ?_
                    exact ih (zz_put (zz_put u17.2 25 0 ((u17.2 25 0) + (1 : Int32))) 24 0 (((σ 24 0) + (1 : Int32)) &&& (31 : Int32))) x1 (x2 + (1 : Int32)) x3 _ _ _ X (lv_sub hl [3, 4, 0, 5] rfl) hf
                · rw [if_pos g23] at hf
                  refine lv_aload_n hx hb zd_Mo_run_162 rfl (lv_at hl 3 rfl) ?_
                  refine lv_iconst (v := 1) hx hb zd_Mo_run_163 (by decide) ?_
                  obtain ⟨hz, hf⟩ := zz_kz_some hf
                  refine zp_Mo_stopped hx hb hts hown X hz zd_Mo_run_164 (fun H locs X => ?_)
                  refine lv_goto (tgt := 204) hx hb zd_Mo_run_167 (by decide) ?_
                  refine lv_goto (tgt := 35) hx hb zd_Mo_run_204 (by decide) ?_
                  exact ih (zz_put (zz_put u17.2 25 0 ((u17.2 25 0) + (1 : Int32))) 28 0 (1 : Int32)) x1 (x2 + (1 : Int32)) x3 _ _ _ X (lv_sub hl [3, 4, 0, 5] rfl) hf
              · rw [if_pos g30] at hf
                refine lv_iconst (v := -1) hx hb zd_Mo_run_155 (by decide) ?_
                refine lv_istore_n (lv' := [(3, .int (-1 : Int32)), (2, .int (x2 + (1 : Int32))), (5, .int (σ 0 (σ 24 0).toNatClampNeg)), (4, .int (σ 24 0)), (0, .ref (q 0)), (1, .int x1)]) hx hb zd_Mo_run_156 rfl hl (by decide) rfl (fun ls hl => ?_)
                refine lv_iload hx hb zd_Mo_run_157 (lv_at hl 2 rfl) ?_
                refine lv_if_ne (tgt := 170) hx hb zd_Mo_run_159 (by decide) (fun g29 => ?_) (fun g29 => ?_)
                · rw [if_neg g29] at hf
                  refine lv_aload_n hx hb zd_Mo_run_170 rfl (lv_at hl 4 rfl) ?_
                  refine lv_iload hx hb zd_Mo_run_171 (lv_at hl 2 rfl) ?_
                  refine lv_bipush (v := 9) hx hb zd_Mo_run_173 (by decide) ?_
                  refine lv_bipush (v := 12) hx hb zd_Mo_run_175 (by decide) ?_
                  obtain ⟨r24, h28, hf⟩ := Option.bind_eq_some_iff.mp hf
                  refine zr_csP (As := [.int (σ 0 (σ 24 0).toNatClampNeg), .int (9 : Int32), .int (12 : Int32)]) (rest := [.ref (q 0)]) hx hb hml hown hts hl.1 X (zk_Mo_in l D q cI cZ h28) zkw_Mo_in zl_Mo_79 rfl rfl (Nat.le_of_ble_eq_true rfl) ⟨rfl, rfl⟩ ⟨Nat.le_of_ble_eq_true rfl, Nat.le_of_ble_eq_true rfl⟩ zd_Mo_run_177 (fun H locs X => ?_)
                  refine lv_if_eq (tgt := 193) hx hb zd_Mo_run_180 (by decide) (fun g27 => ?_) (fun g27 => ?_)
                  · rw [if_pos g27] at hf
                    refine lv_aload_n hx hb zd_Mo_run_193 rfl (lv_at hl 4 rfl) ?_
                    refine lv_iload hx hb zd_Mo_run_194 (lv_at hl 2 rfl) ?_
                    refine lv_iload hx hb zd_Mo_run_196 (lv_at hl 3 rfl) ?_
                    obtain ⟨u25, h26, hf⟩ := Option.bind_eq_some_iff.mp hf
                    refine zr_cvI (As := [.int (σ 0 (σ 24 0).toNatClampNeg), .int (σ 24 0)]) (rest := [.ref (q 0)]) (q0 := 0) (ci := 9) hx hb hml hown hts hl.1 X (zk_Mo_perform l D q cI cZ h26) zkw_Mo_perform zl_Mo_170 rfl rfl (Nat.le_of_ble_eq_true rfl) rfl rfl ⟨rfl, rfl⟩ ⟨Nat.le_of_ble_eq_true rfl, Nat.le_of_ble_eq_true rfl⟩ zd_Mo_run_198 (fun H locs X => ?_)
                    refine zp_Mo_place hx hb hts hown X zd_Mo_run_201 (fun H locs X => ?_)
                    refine lv_goto (tgt := 35) hx hb zd_Mo_run_204 (by decide) ?_
                    exact ih (zz_put u25.2 24 0 u25.1) x1 (x2 + (1 : Int32)) (-1 : Int32) _ _ _ X (lv_sub hl [4, 5, 1, 0] rfl) hf
                  · rw [if_neg g27] at hf
                    refine lv_iload hx hb zd_Mo_run_183 (lv_at hl 3 rfl) ?_
                    refine lv_iconst (v := 1) hx hb zd_Mo_run_185 (by decide) ?_
                    refine lv_iadd hx hb zd_Mo_run_186 ?_
                    refine lv_bipush (v := 31) hx hb zd_Mo_run_187 (by decide) ?_
                    refine lv_iand hx hb zd_Mo_run_189 ?_
                    refine lv_goto (tgt := 201) hx hb zd_Mo_run_190 (by decide) ?_
                    refine zp_Mo_place hx hb hts hown X zd_Mo_run_201 (fun H locs X => ?_)
                    refine lv_goto (tgt := 35) hx hb zd_Mo_run_204 (by decide) ?_
                    exact ih (zz_put (zz_put u17.2 25 0 ((u17.2 25 0) + (1 : Int32))) 24 0 (((σ 24 0) + (1 : Int32)) &&& (31 : Int32))) x1 (x2 + (1 : Int32)) (-1 : Int32) _ _ _ X (lv_sub hl [4, 5, 1, 0] rfl) hf
                · rw [if_pos g29] at hf
                  refine lv_aload_n hx hb zd_Mo_run_162 rfl (lv_at hl 4 rfl) ?_
                  refine lv_iconst (v := 1) hx hb zd_Mo_run_163 (by decide) ?_
                  obtain ⟨hz, hf⟩ := zz_kz_some hf
                  refine zp_Mo_stopped hx hb hts hown X hz zd_Mo_run_164 (fun H locs X => ?_)
                  refine lv_goto (tgt := 204) hx hb zd_Mo_run_167 (by decide) ?_
                  refine lv_goto (tgt := 35) hx hb zd_Mo_run_204 (by decide) ?_
                  exact ih (zz_put (zz_put u17.2 25 0 ((u17.2 25 0) + (1 : Int32))) 28 0 (1 : Int32)) x1 (x2 + (1 : Int32)) (-1 : Int32) _ _ _ X (lv_sub hl [4, 5, 1, 0] rfl) hf
            · rw [if_pos g31] at hf
              refine lv_aload_n hx hb zd_Mo_run_124 rfl (lv_at hl 2 rfl) ?_
              refine lv_iconst (v := 1) hx hb zd_Mo_run_125 (by decide) ?_
              obtain ⟨hz, hf⟩ := zz_kz_some hf
              refine zp_Mo_stopped hx hb hts hown X hz zd_Mo_run_126 (fun H locs X => ?_)
              refine lv_aload_n hx hb zd_Mo_run_129 rfl (lv_at hl 2 rfl) ?_
              refine lv_iconst (v := 3) hx hb zd_Mo_run_130 (by decide) ?_
              refine zp_Mo_thrown hx hb hts hown X zd_Mo_run_131 (fun H locs X => ?_)
              refine lv_iconst (v := 0) hx hb zd_Mo_run_134 (by decide) ?_
              exact zr_iret hx hb hr hlocks X (Option.some.inj hf) zd_Mo_run_135
        · rw [if_neg g104] at hf
          refine lv_aload_n hx hb zd_Mo_run_66 rfl (lv_at hl 2 rfl) ?_
          refine zg_Mo_piece hx hb hts hown X zd_Mo_run_67 ?_
          refine lv_iload hx hb zd_Mo_run_70 (lv_at hl 1 rfl) ?_
          obtain ⟨hin, hf⟩ := zz_ck_some hf
          refine za_Mo_piece hx hb X hin zd_Mo_run_72 ?_
          refine lv_if_ne (tgt := 86) hx hb zd_Mo_run_73 (by decide) (fun g103 => ?_) (fun g103 => ?_)
          · rw [if_neg g103] at hf
            refine lv_aload_n hx hb zd_Mo_run_86 rfl (lv_at hl 2 rfl) ?_
            refine zg_Mo_piece hx hb hts hown X zd_Mo_run_87 ?_
            refine lv_iload hx hb zd_Mo_run_90 (lv_at hl 1 rfl) ?_
            refine lv_iconst (v := 1) hx hb zd_Mo_run_92 (by decide) ?_
            obtain ⟨hin, hf⟩ := zz_ck_some hf
            refine zs_Mo_piece hx hb X hin zd_Mo_run_93 (fun H locs X => ?_)
            refine lv_aload_n hx hb zd_Mo_run_94 rfl (lv_at hl 2 rfl) ?_
            refine lv_iload hx hb zd_Mo_run_95 (lv_at hl 1 rfl) ?_
            obtain ⟨r35, h68, hf⟩ := Option.bind_eq_some_iff.mp hf
            refine zr_cvP (As := [.int (σ 24 0)]) (rest := []) (q0 := 0) (ci := 9) hx hb hml hown hts hl.1 X (zk_Mo_endOf l D q cI cZ h68) zkw_Mo_endOf zl_Mo_91 rfl rfl (Nat.le_of_ble_eq_true rfl) rfl rfl ⟨rfl, rfl⟩ ⟨Nat.le_of_ble_eq_true rfl, Nat.le_of_ble_eq_true rfl⟩ zd_Mo_run_97 (fun H locs X => ?_)
            refine lv_istore_n (lv' := [(3, .int r35), (5, .int (σ 0 (σ 24 0).toNatClampNeg)), (4, .int (σ 24 0)), (0, .ref (q 0)), (1, .int x1), (2, .int x2)]) hx hb zd_Mo_run_100 rfl hl (by decide) rfl (fun ls hl => ?_)
            refine lv_iload hx hb zd_Mo_run_101 (lv_at hl 1 rfl) ?_
            refine lv_bipush (v := 9) hx hb zd_Mo_run_103 (by decide) ?_
            refine lv_bipush (v := 12) hx hb zd_Mo_run_105 (by decide) ?_
            obtain ⟨r36, h67, hf⟩ := Option.bind_eq_some_iff.mp hf
            refine zr_csP (As := [.int (σ 0 (σ 24 0).toNatClampNeg), .int (9 : Int32), .int (12 : Int32)]) (rest := []) hx hb hml hown hts hl.1 X (zk_Mo_in l D q cI cZ h67) zkw_Mo_in zl_Mo_79 rfl rfl (Nat.le_of_ble_eq_true rfl) ⟨rfl, rfl⟩ ⟨Nat.le_of_ble_eq_true rfl, Nat.le_of_ble_eq_true rfl⟩ zd_Mo_run_107 (fun H locs X => ?_)
            refine lv_if_eq (tgt := 136) hx hb zd_Mo_run_110 (by decide) (fun g66 => ?_) (fun g66 => ?_)
            · rw [if_pos g66] at hf
              refine lv_iinc (v := (x2 + (1 : Int32))) (lv' := [(2, .int (x2 + (1 : Int32))), (3, .int r35), (5, .int (σ 0 (σ 24 0).toNatClampNeg)), (4, .int (σ 24 0)), (0, .ref (q 0)), (1, .int x1)]) hx hb zd_Mo_run_136 hl (k := 5) rfl rfl (by decide) rfl (fun ls hl => ?_)
              refine lv_aload_n hx hb zd_Mo_run_139 rfl (lv_at hl 4 rfl) ?_
              refine lv_dup hx hb zd_Mo_run_140 rfl ?_
              refine zg_Mo_done hx hb hts hown X zd_Mo_run_141 ?_
              refine lv_iconst (v := 1) hx hb zd_Mo_run_144 (by decide) ?_
              refine lv_iadd hx hb zd_Mo_run_145 ?_
              refine zp_Mo_done hx hb hts hown X zd_Mo_run_146 (fun H locs X => ?_)
              refine lv_iload hx hb zd_Mo_run_149 (lv_at hl 3 rfl) ?_
              refine lv_iload_n hx hb zd_Mo_run_151 rfl (lv_at hl 1 rfl) ?_
              refine lv_icmp_ne (tgt := 157) hx hb zd_Mo_run_152 (by decide) (fun g49 => ?_) (fun g49 => ?_)
              · rw [if_neg g49] at hf
                refine lv_iload hx hb zd_Mo_run_157 (lv_at hl 2 rfl) ?_
                refine lv_if_ne (tgt := 170) hx hb zd_Mo_run_159 (by decide) (fun g42 => ?_) (fun g42 => ?_)
                · rw [if_neg g42] at hf
                  refine lv_aload_n hx hb zd_Mo_run_170 rfl (lv_at hl 4 rfl) ?_
                  refine lv_iload hx hb zd_Mo_run_171 (lv_at hl 2 rfl) ?_
                  refine lv_bipush (v := 9) hx hb zd_Mo_run_173 (by decide) ?_
                  refine lv_bipush (v := 12) hx hb zd_Mo_run_175 (by decide) ?_
                  obtain ⟨r37, h41, hf⟩ := Option.bind_eq_some_iff.mp hf
                  refine zr_csP (As := [.int (σ 0 (σ 24 0).toNatClampNeg), .int (9 : Int32), .int (12 : Int32)]) (rest := [.ref (q 0)]) hx hb hml hown hts hl.1 X (zk_Mo_in l D q cI cZ h41) zkw_Mo_in zl_Mo_79 rfl rfl (Nat.le_of_ble_eq_true rfl) ⟨rfl, rfl⟩ ⟨Nat.le_of_ble_eq_true rfl, Nat.le_of_ble_eq_true rfl⟩ zd_Mo_run_177 (fun H locs X => ?_)
                  refine lv_if_eq (tgt := 193) hx hb zd_Mo_run_180 (by decide) (fun g40 => ?_) (fun g40 => ?_)
                  · rw [if_pos g40] at hf
                    refine lv_aload_n hx hb zd_Mo_run_193 rfl (lv_at hl 4 rfl) ?_
                    refine lv_iload hx hb zd_Mo_run_194 (lv_at hl 2 rfl) ?_
                    refine lv_iload hx hb zd_Mo_run_196 (lv_at hl 3 rfl) ?_
                    obtain ⟨u38, h39, hf⟩ := Option.bind_eq_some_iff.mp hf
                    refine zr_cvI (As := [.int (σ 0 (σ 24 0).toNatClampNeg), .int (σ 24 0)]) (rest := [.ref (q 0)]) (q0 := 0) (ci := 9) hx hb hml hown hts hl.1 X (zk_Mo_perform l D q cI cZ h39) zkw_Mo_perform zl_Mo_170 rfl rfl (Nat.le_of_ble_eq_true rfl) rfl rfl ⟨rfl, rfl⟩ ⟨Nat.le_of_ble_eq_true rfl, Nat.le_of_ble_eq_true rfl⟩ zd_Mo_run_198 (fun H locs X => ?_)
                    refine zp_Mo_place hx hb hts hown X zd_Mo_run_201 (fun H locs X => ?_)
                    refine lv_goto (tgt := 35) hx hb zd_Mo_run_204 (by decide) ?_
                    exact ih (zz_put u38.2 24 0 u38.1) x1 (x2 + (1 : Int32)) r35 _ _ _ X (lv_sub hl [4, 5, 0, 1] rfl) hf
                  · rw [if_neg g40] at hf
                    refine lv_iload hx hb zd_Mo_run_183 (lv_at hl 3 rfl) ?_
                    refine lv_iconst (v := 1) hx hb zd_Mo_run_185 (by decide) ?_
                    refine lv_iadd hx hb zd_Mo_run_186 ?_
                    refine lv_bipush (v := 31) hx hb zd_Mo_run_187 (by decide) ?_
                    refine lv_iand hx hb zd_Mo_run_189 ?_
                    refine lv_goto (tgt := 201) hx hb zd_Mo_run_190 (by decide) ?_
                    refine zp_Mo_place hx hb hts hown X zd_Mo_run_201 (fun H locs X => ?_)
                    refine lv_goto (tgt := 35) hx hb zd_Mo_run_204 (by decide) ?_
                    exact ih (zz_put (zz_put (zz_put σ 19 (σ 24 0).toNatClampNeg (vp_nar .boolean (1 : Int32))) 25 0 (((zz_put σ 19 (σ 24 0).toNatClampNeg (vp_nar .boolean (1 : Int32))) 25 0) + (1 : Int32))) 24 0 (((σ 24 0) + (1 : Int32)) &&& (31 : Int32))) x1 (x2 + (1 : Int32)) r35 _ _ _ X (lv_sub hl [4, 5, 0, 1] rfl) hf
                · rw [if_pos g42] at hf
                  refine lv_aload_n hx hb zd_Mo_run_162 rfl (lv_at hl 4 rfl) ?_
                  refine lv_iconst (v := 1) hx hb zd_Mo_run_163 (by decide) ?_
                  obtain ⟨hz, hf⟩ := zz_kz_some hf
                  refine zp_Mo_stopped hx hb hts hown X hz zd_Mo_run_164 (fun H locs X => ?_)
                  refine lv_goto (tgt := 204) hx hb zd_Mo_run_167 (by decide) ?_
                  refine lv_goto (tgt := 35) hx hb zd_Mo_run_204 (by decide) ?_
                  exact ih (zz_put (zz_put (zz_put σ 19 (σ 24 0).toNatClampNeg (vp_nar .boolean (1 : Int32))) 25 0 (((zz_put σ 19 (σ 24 0).toNatClampNeg (vp_nar .boolean (1 : Int32))) 25 0) + (1 : Int32))) 28 0 (1 : Int32)) x1 (x2 + (1 : Int32)) r35 _ _ _ X (lv_sub hl [4, 5, 0, 1] rfl) hf
              · rw [if_pos g49] at hf
                refine lv_iconst (v := -1) hx hb zd_Mo_run_155 (by decide) ?_
                refine lv_istore_n (lv' := [(3, .int (-1 : Int32)), (2, .int (x2 + (1 : Int32))), (5, .int (σ 0 (σ 24 0).toNatClampNeg)), (4, .int (σ 24 0)), (0, .ref (q 0)), (1, .int x1)]) hx hb zd_Mo_run_156 rfl hl (by decide) rfl (fun ls hl => ?_)
                refine lv_iload hx hb zd_Mo_run_157 (lv_at hl 2 rfl) ?_
                refine lv_if_ne (tgt := 170) hx hb zd_Mo_run_159 (by decide) (fun g48 => ?_) (fun g48 => ?_)
                · rw [if_neg g48] at hf
                  refine lv_aload_n hx hb zd_Mo_run_170 rfl (lv_at hl 4 rfl) ?_
                  refine lv_iload hx hb zd_Mo_run_171 (lv_at hl 2 rfl) ?_
                  refine lv_bipush (v := 9) hx hb zd_Mo_run_173 (by decide) ?_
                  refine lv_bipush (v := 12) hx hb zd_Mo_run_175 (by decide) ?_
                  obtain ⟨r43, h47, hf⟩ := Option.bind_eq_some_iff.mp hf
                  refine zr_csP (As := [.int (σ 0 (σ 24 0).toNatClampNeg), .int (9 : Int32), .int (12 : Int32)]) (rest := [.ref (q 0)]) hx hb hml hown hts hl.1 X (zk_Mo_in l D q cI cZ h47) zkw_Mo_in zl_Mo_79 rfl rfl (Nat.le_of_ble_eq_true rfl) ⟨rfl, rfl⟩ ⟨Nat.le_of_ble_eq_true rfl, Nat.le_of_ble_eq_true rfl⟩ zd_Mo_run_177 (fun H locs X => ?_)
                  refine lv_if_eq (tgt := 193) hx hb zd_Mo_run_180 (by decide) (fun g46 => ?_) (fun g46 => ?_)
                  · rw [if_pos g46] at hf
                    refine lv_aload_n hx hb zd_Mo_run_193 rfl (lv_at hl 4 rfl) ?_
                    refine lv_iload hx hb zd_Mo_run_194 (lv_at hl 2 rfl) ?_
                    refine lv_iload hx hb zd_Mo_run_196 (lv_at hl 3 rfl) ?_
                    obtain ⟨u44, h45, hf⟩ := Option.bind_eq_some_iff.mp hf
                    refine zr_cvI (As := [.int (σ 0 (σ 24 0).toNatClampNeg), .int (σ 24 0)]) (rest := [.ref (q 0)]) (q0 := 0) (ci := 9) hx hb hml hown hts hl.1 X (zk_Mo_perform l D q cI cZ h45) zkw_Mo_perform zl_Mo_170 rfl rfl (Nat.le_of_ble_eq_true rfl) rfl rfl ⟨rfl, rfl⟩ ⟨Nat.le_of_ble_eq_true rfl, Nat.le_of_ble_eq_true rfl⟩ zd_Mo_run_198 (fun H locs X => ?_)
                    refine zp_Mo_place hx hb hts hown X zd_Mo_run_201 (fun H locs X => ?_)
                    refine lv_goto (tgt := 35) hx hb zd_Mo_run_204 (by decide) ?_
                    exact ih (zz_put u44.2 24 0 u44.1) x1 (x2 + (1 : Int32)) (-1 : Int32) _ _ _ X (lv_sub hl [4, 5, 1, 0] rfl) hf
                  · rw [if_neg g46] at hf
                    refine lv_iload hx hb zd_Mo_run_183 (lv_at hl 3 rfl) ?_
                    refine lv_iconst (v := 1) hx hb zd_Mo_run_185 (by decide) ?_
                    refine lv_iadd hx hb zd_Mo_run_186 ?_
                    refine lv_bipush (v := 31) hx hb zd_Mo_run_187 (by decide) ?_
                    refine lv_iand hx hb zd_Mo_run_189 ?_
                    refine lv_goto (tgt := 201) hx hb zd_Mo_run_190 (by decide) ?_
                    refine zp_Mo_place hx hb hts hown X zd_Mo_run_201 (fun H locs X => ?_)
                    refine lv_goto (tgt := 35) hx hb zd_Mo_run_204 (by decide) ?_
                    exact ih (zz_put (zz_put (zz_put σ 19 (σ 24 0).toNatClampNeg (vp_nar .boolean (1 : Int32))) 25 0 (((zz_put σ 19 (σ 24 0).toNatClampNeg (vp_nar .boolean (1 : Int32))) 25 0) + (1 : Int32))) 24 0 (((σ 24 0) + (1 : Int32)) &&& (31 : Int32))) x1 (x2 + (1 : Int32)) (-1 : Int32) _ _ _ X (lv_sub hl [4, 5, 1, 0] rfl) hf
                · rw [if_pos g48] at hf
                  refine lv_aload_n hx hb zd_Mo_run_162 rfl (lv_at hl 4 rfl) ?_
                  refine lv_iconst (v := 1) hx hb zd_Mo_run_163 (by decide) ?_
                  obtain ⟨hz, hf⟩ := zz_kz_some hf
                  refine zp_Mo_stopped hx hb hts hown X hz zd_Mo_run_164 (fun H locs X => ?_)
                  refine lv_goto (tgt := 204) hx hb zd_Mo_run_167 (by decide) ?_
                  refine lv_goto (tgt := 35) hx hb zd_Mo_run_204 (by decide) ?_
                  exact ih (zz_put (zz_put (zz_put σ 19 (σ 24 0).toNatClampNeg (vp_nar .boolean (1 : Int32))) 25 0 (((zz_put σ 19 (σ 24 0).toNatClampNeg (vp_nar .boolean (1 : Int32))) 25 0) + (1 : Int32))) 28 0 (1 : Int32)) x1 (x2 + (1 : Int32)) (-1 : Int32) _ _ _ X (lv_sub hl [4, 5, 1, 0] rfl) hf
            · rw [if_neg g66] at hf
              refine lv_aload_n hx hb zd_Mo_run_113 rfl (lv_at hl 3 rfl) ?_
              refine lv_iload hx hb zd_Mo_run_114 (lv_at hl 1 rfl) ?_
              refine lv_iload hx hb zd_Mo_run_116 (lv_at hl 2 rfl) ?_
              obtain ⟨u50, h65, hf⟩ := Option.bind_eq_some_iff.mp hf
              refine zr_cvI (As := [.int (σ 0 (σ 24 0).toNatClampNeg), .int (σ 24 0)]) (rest := []) (q0 := 0) (ci := 9) hx hb hml hown hts hl.1 X (zk_Mo_access l D q cI cZ h65) zkw_Mo_access zl_Mo_164 rfl rfl (Nat.le_of_ble_eq_true rfl) rfl rfl ⟨rfl, rfl⟩ ⟨Nat.le_of_ble_eq_true rfl, Nat.le_of_ble_eq_true rfl⟩ zd_Mo_run_118 (fun H locs X => ?_)
              refine lv_if_ne (tgt := 136) hx hb zd_Mo_run_121 (by decide) (fun g64 => ?_) (fun g64 => ?_)
              · rw [if_neg g64] at hf
                refine lv_iinc (v := (x2 + (1 : Int32))) (lv' := [(2, .int (x2 + (1 : Int32))), (3, .int r35), (5, .int (σ 0 (σ 24 0).toNatClampNeg)), (4, .int (σ 24 0)), (0, .ref (q 0)), (1, .int x1)]) hx hb zd_Mo_run_136 hl (k := 5) rfl rfl (by decide) rfl (fun ls hl => ?_)
                refine lv_aload_n hx hb zd_Mo_run_139 rfl (lv_at hl 4 rfl) ?_
                refine lv_dup hx hb zd_Mo_run_140 rfl ?_
                refine zg_Mo_done hx hb hts hown X zd_Mo_run_141 ?_
                refine lv_iconst (v := 1) hx hb zd_Mo_run_144 (by decide) ?_
                refine lv_iadd hx hb zd_Mo_run_145 ?_
                refine zp_Mo_done hx hb hts hown X zd_Mo_run_146 (fun H locs X => ?_)
                refine lv_iload hx hb zd_Mo_run_149 (lv_at hl 3 rfl) ?_
                refine lv_iload_n hx hb zd_Mo_run_151 rfl (lv_at hl 1 rfl) ?_
                refine lv_icmp_ne (tgt := 157) hx hb zd_Mo_run_152 (by decide) (fun g63 => ?_) (fun g63 => ?_)
                · rw [if_neg g63] at hf
                  refine lv_iload hx hb zd_Mo_run_157 (lv_at hl 2 rfl) ?_
                  refine lv_if_ne (tgt := 170) hx hb zd_Mo_run_159 (by decide) (fun g56 => ?_) (fun g56 => ?_)
                  · rw [if_neg g56] at hf
                    refine lv_aload_n hx hb zd_Mo_run_170 rfl (lv_at hl 4 rfl) ?_
                    refine lv_iload hx hb zd_Mo_run_171 (lv_at hl 2 rfl) ?_
                    refine lv_bipush (v := 9) hx hb zd_Mo_run_173 (by decide) ?_
                    refine lv_bipush (v := 12) hx hb zd_Mo_run_175 (by decide) ?_
                    obtain ⟨r51, h55, hf⟩ := Option.bind_eq_some_iff.mp hf
                    refine zr_csP (As := [.int (σ 0 (σ 24 0).toNatClampNeg), .int (9 : Int32), .int (12 : Int32)]) (rest := [.ref (q 0)]) hx hb hml hown hts hl.1 X (zk_Mo_in l D q cI cZ h55) zkw_Mo_in zl_Mo_79 rfl rfl (Nat.le_of_ble_eq_true rfl) ⟨rfl, rfl⟩ ⟨Nat.le_of_ble_eq_true rfl, Nat.le_of_ble_eq_true rfl⟩ zd_Mo_run_177 (fun H locs X => ?_)
                    refine lv_if_eq (tgt := 193) hx hb zd_Mo_run_180 (by decide) (fun g54 => ?_) (fun g54 => ?_)
                    · rw [if_pos g54] at hf
                      refine lv_aload_n hx hb zd_Mo_run_193 rfl (lv_at hl 4 rfl) ?_
                      refine lv_iload hx hb zd_Mo_run_194 (lv_at hl 2 rfl) ?_
                      refine lv_iload hx hb zd_Mo_run_196 (lv_at hl 3 rfl) ?_
                      obtain ⟨u52, h53, hf⟩ := Option.bind_eq_some_iff.mp hf
                      refine zr_cvI (As := [.int (σ 0 (σ 24 0).toNatClampNeg), .int (σ 24 0)]) (rest := [.ref (q 0)]) (q0 := 0) (ci := 9) hx hb hml hown hts hl.1 X (zk_Mo_perform l D q cI cZ h53) zkw_Mo_perform zl_Mo_170 rfl rfl (Nat.le_of_ble_eq_true rfl) rfl rfl ⟨rfl, rfl⟩ ⟨Nat.le_of_ble_eq_true rfl, Nat.le_of_ble_eq_true rfl⟩ zd_Mo_run_198 (fun H locs X => ?_)
                      refine zp_Mo_place hx hb hts hown X zd_Mo_run_201 (fun H locs X => ?_)
                      refine lv_goto (tgt := 35) hx hb zd_Mo_run_204 (by decide) ?_
                      exact ih (zz_put u52.2 24 0 u52.1) x1 (x2 + (1 : Int32)) r35 _ _ _ X (lv_sub hl [4, 5, 0, 1] rfl) hf
                    · rw [if_neg g54] at hf
                      refine lv_iload hx hb zd_Mo_run_183 (lv_at hl 3 rfl) ?_
                      refine lv_iconst (v := 1) hx hb zd_Mo_run_185 (by decide) ?_
                      refine lv_iadd hx hb zd_Mo_run_186 ?_
                      refine lv_bipush (v := 31) hx hb zd_Mo_run_187 (by decide) ?_
                      refine lv_iand hx hb zd_Mo_run_189 ?_
                      refine lv_goto (tgt := 201) hx hb zd_Mo_run_190 (by decide) ?_
                      refine zp_Mo_place hx hb hts hown X zd_Mo_run_201 (fun H locs X => ?_)
                      refine lv_goto (tgt := 35) hx hb zd_Mo_run_204 (by decide) ?_
                      exact ih (zz_put (zz_put u50.2 25 0 ((u50.2 25 0) + (1 : Int32))) 24 0 (((σ 24 0) + (1 : Int32)) &&& (31 : Int32))) x1 (x2 + (1 : Int32)) r35 _ _ _ X (lv_sub hl [4, 5, 0, 1] rfl) hf
                  · rw [if_pos g56] at hf
                    refine lv_aload_n hx hb zd_Mo_run_162 rfl (lv_at hl 4 rfl) ?_
                    refine lv_iconst (v := 1) hx hb zd_Mo_run_163 (by decide) ?_
                    obtain ⟨hz, hf⟩ := zz_kz_some hf
                    refine zp_Mo_stopped hx hb hts hown X hz zd_Mo_run_164 (fun H locs X => ?_)
                    refine lv_goto (tgt := 204) hx hb zd_Mo_run_167 (by decide) ?_
                    refine lv_goto (tgt := 35) hx hb zd_Mo_run_204 (by decide) ?_
                    exact ih (zz_put (zz_put u50.2 25 0 ((u50.2 25 0) + (1 : Int32))) 28 0 (1 : Int32)) x1 (x2 + (1 : Int32)) r35 _ _ _ X (lv_sub hl [4, 5, 0, 1] rfl) hf
                · rw [if_pos g63] at hf
                  refine lv_iconst (v := -1) hx hb zd_Mo_run_155 (by decide) ?_
                  refine lv_istore_n (lv' := [(3, .int (-1 : Int32)), (2, .int (x2 + (1 : Int32))), (5, .int (σ 0 (σ 24 0).toNatClampNeg)), (4, .int (σ 24 0)), (0, .ref (q 0)), (1, .int x1)]) hx hb zd_Mo_run_156 rfl hl (by decide) rfl (fun ls hl => ?_)
                  refine lv_iload hx hb zd_Mo_run_157 (lv_at hl 2 rfl) ?_
                  refine lv_if_ne (tgt := 170) hx hb zd_Mo_run_159 (by decide) (fun g62 => ?_) (fun g62 => ?_)
                  · rw [if_neg g62] at hf
                    refine lv_aload_n hx hb zd_Mo_run_170 rfl (lv_at hl 4 rfl) ?_
                    refine lv_iload hx hb zd_Mo_run_171 (lv_at hl 2 rfl) ?_
                    refine lv_bipush (v := 9) hx hb zd_Mo_run_173 (by decide) ?_
                    refine lv_bipush (v := 12) hx hb zd_Mo_run_175 (by decide) ?_
                    obtain ⟨r57, h61, hf⟩ := Option.bind_eq_some_iff.mp hf
                    refine zr_csP (As := [.int (σ 0 (σ 24 0).toNatClampNeg), .int (9 : Int32), .int (12 : Int32)]) (rest := [.ref (q 0)]) hx hb hml hown hts hl.1 X (zk_Mo_in l D q cI cZ h61) zkw_Mo_in zl_Mo_79 rfl rfl (Nat.le_of_ble_eq_true rfl) ⟨rfl, rfl⟩ ⟨Nat.le_of_ble_eq_true rfl, Nat.le_of_ble_eq_true rfl⟩ zd_Mo_run_177 (fun H locs X => ?_)
                    refine lv_if_eq (tgt := 193) hx hb zd_Mo_run_180 (by decide) (fun g60 => ?_) (fun g60 => ?_)
                    · rw [if_pos g60] at hf
                      refine lv_aload_n hx hb zd_Mo_run_193 rfl (lv_at hl 4 rfl) ?_
                      refine lv_iload hx hb zd_Mo_run_194 (lv_at hl 2 rfl) ?_
                      refine lv_iload hx hb zd_Mo_run_196 (lv_at hl 3 rfl) ?_
                      obtain ⟨u58, h59, hf⟩ := Option.bind_eq_some_iff.mp hf
                      refine zr_cvI (As := [.int (σ 0 (σ 24 0).toNatClampNeg), .int (σ 24 0)]) (rest := [.ref (q 0)]) (q0 := 0) (ci := 9) hx hb hml hown hts hl.1 X (zk_Mo_perform l D q cI cZ h59) zkw_Mo_perform zl_Mo_170 rfl rfl (Nat.le_of_ble_eq_true rfl) rfl rfl ⟨rfl, rfl⟩ ⟨Nat.le_of_ble_eq_true rfl, Nat.le_of_ble_eq_true rfl⟩ zd_Mo_run_198 (fun H locs X => ?_)
                      refine zp_Mo_place hx hb hts hown X zd_Mo_run_201 (fun H locs X => ?_)
                      refine lv_goto (tgt := 35) hx hb zd_Mo_run_204 (by decide) ?_
                      exact ih (zz_put u58.2 24 0 u58.1) x1 (x2 + (1 : Int32)) (-1 : Int32) _ _ _ X (lv_sub hl [4, 5, 1, 0] rfl) hf
                    · rw [if_neg g60] at hf
                      refine lv_iload hx hb zd_Mo_run_183 (lv_at hl 3 rfl) ?_
                      refine lv_iconst (v := 1) hx hb zd_Mo_run_185 (by decide) ?_
                      refine lv_iadd hx hb zd_Mo_run_186 ?_
                      refine lv_bipush (v := 31) hx hb zd_Mo_run_187 (by decide) ?_
                      refine lv_iand hx hb zd_Mo_run_189 ?_
                      refine lv_goto (tgt := 201) hx hb zd_Mo_run_190 (by decide) ?_
                      refine zp_Mo_place hx hb hts hown X zd_Mo_run_201 (fun H locs X => ?_)
                      refine lv_goto (tgt := 35) hx hb zd_Mo_run_204 (by decide) ?_
                      exact ih (zz_put (zz_put u50.2 25 0 ((u50.2 25 0) + (1 : Int32))) 24 0 (((σ 24 0) + (1 : Int32)) &&& (31 : Int32))) x1 (x2 + (1 : Int32)) (-1 : Int32) _ _ _ X (lv_sub hl [4, 5, 1, 0] rfl) hf
                  · rw [if_pos g62] at hf
                    refine lv_aload_n hx hb zd_Mo_run_162 rfl (lv_at hl 4 rfl) ?_
                    refine lv_iconst (v := 1) hx hb zd_Mo_run_163 (by decide) ?_
                    obtain ⟨hz, hf⟩ := zz_kz_some hf
                    refine zp_Mo_stopped hx hb hts hown X hz zd_Mo_run_164 (fun H locs X => ?_)
                    refine lv_goto (tgt := 204) hx hb zd_Mo_run_167 (by decide) ?_
                    refine lv_goto (tgt := 35) hx hb zd_Mo_run_204 (by decide) ?_
                    exact ih (zz_put (zz_put u50.2 25 0 ((u50.2 25 0) + (1 : Int32))) 28 0 (1 : Int32)) x1 (x2 + (1 : Int32)) (-1 : Int32) _ _ _ X (lv_sub hl [4, 5, 1, 0] rfl) hf
              · rw [if_pos g64] at hf
                refine lv_aload_n hx hb zd_Mo_run_124 rfl (lv_at hl 3 rfl) ?_
                refine lv_iconst (v := 1) hx hb zd_Mo_run_125 (by decide) ?_
                obtain ⟨hz, hf⟩ := zz_kz_some hf
                refine zp_Mo_stopped hx hb hts hown X hz zd_Mo_run_126 (fun H locs X => ?_)
                refine lv_aload_n hx hb zd_Mo_run_129 rfl (lv_at hl 3 rfl) ?_
                refine lv_iconst (v := 3) hx hb zd_Mo_run_130 (by decide) ?_
                refine zp_Mo_thrown hx hb hts hown X zd_Mo_run_131 (fun H locs X => ?_)
                refine lv_iconst (v := 0) hx hb zd_Mo_run_134 (by decide) ?_
                exact zr_iret hx hb hr hlocks X (Option.some.inj hf) zd_Mo_run_135
          · rw [if_pos g103] at hf
            refine lv_aload_n hx hb zd_Mo_run_76 rfl (lv_at hl 2 rfl) ?_
            refine lv_dup hx hb zd_Mo_run_77 rfl ?_
            refine zg_Mo_translated hx hb hts hown X zd_Mo_run_78 ?_
            refine lv_iconst (v := 1) hx hb zd_Mo_run_81 (by decide) ?_
            refine lv_iadd hx hb zd_Mo_run_82 ?_
            refine zp_Mo_translated hx hb hts hown X zd_Mo_run_83 (fun H locs X => ?_)
            refine lv_aload_n hx hb zd_Mo_run_86 rfl (lv_at hl 2 rfl) ?_
            refine zg_Mo_piece hx hb hts hown X zd_Mo_run_87 ?_
            refine lv_iload hx hb zd_Mo_run_90 (lv_at hl 1 rfl) ?_
            refine lv_iconst (v := 1) hx hb zd_Mo_run_92 (by decide) ?_
            obtain ⟨hin, hf⟩ := zz_ck_some hf
            refine zs_Mo_piece hx hb X hin zd_Mo_run_93 (fun H locs X => ?_)
            refine lv_aload_n hx hb zd_Mo_run_94 rfl (lv_at hl 2 rfl) ?_
            refine lv_iload hx hb zd_Mo_run_95 (lv_at hl 1 rfl) ?_
            obtain ⟨r69, h102, hf⟩ := Option.bind_eq_some_iff.mp hf
            refine zr_cvP (As := [.int (σ 24 0)]) (rest := []) (q0 := 0) (ci := 9) hx hb hml hown hts hl.1 X (zk_Mo_endOf l D q cI cZ h102) zkw_Mo_endOf zl_Mo_91 rfl rfl (Nat.le_of_ble_eq_true rfl) rfl rfl ⟨rfl, rfl⟩ ⟨Nat.le_of_ble_eq_true rfl, Nat.le_of_ble_eq_true rfl⟩ zd_Mo_run_97 (fun H locs X => ?_)
            refine lv_istore_n (lv' := [(3, .int r69), (5, .int (σ 0 (σ 24 0).toNatClampNeg)), (4, .int (σ 24 0)), (0, .ref (q 0)), (1, .int x1), (2, .int x2)]) hx hb zd_Mo_run_100 rfl hl (by decide) rfl (fun ls hl => ?_)
            refine lv_iload hx hb zd_Mo_run_101 (lv_at hl 1 rfl) ?_
            refine lv_bipush (v := 9) hx hb zd_Mo_run_103 (by decide) ?_
            refine lv_bipush (v := 12) hx hb zd_Mo_run_105 (by decide) ?_
            obtain ⟨r70, h101, hf⟩ := Option.bind_eq_some_iff.mp hf
            refine zr_csP (As := [.int (σ 0 (σ 24 0).toNatClampNeg), .int (9 : Int32), .int (12 : Int32)]) (rest := []) hx hb hml hown hts hl.1 X (zk_Mo_in l D q cI cZ h101) zkw_Mo_in zl_Mo_79 rfl rfl (Nat.le_of_ble_eq_true rfl) ⟨rfl, rfl⟩ ⟨Nat.le_of_ble_eq_true rfl, Nat.le_of_ble_eq_true rfl⟩ zd_Mo_run_107 (fun H locs X => ?_)
            refine lv_if_eq (tgt := 136) hx hb zd_Mo_run_110 (by decide) (fun g100 => ?_) (fun g100 => ?_)
            · rw [if_pos g100] at hf
              refine lv_iinc (v := (x2 + (1 : Int32))) (lv' := [(2, .int (x2 + (1 : Int32))), (3, .int r69), (5, .int (σ 0 (σ 24 0).toNatClampNeg)), (4, .int (σ 24 0)), (0, .ref (q 0)), (1, .int x1)]) hx hb zd_Mo_run_136 hl (k := 5) rfl rfl (by decide) rfl (fun ls hl => ?_)
              refine lv_aload_n hx hb zd_Mo_run_139 rfl (lv_at hl 4 rfl) ?_
              refine lv_dup hx hb zd_Mo_run_140 rfl ?_
              refine zg_Mo_done hx hb hts hown X zd_Mo_run_141 ?_
              refine lv_iconst (v := 1) hx hb zd_Mo_run_144 (by decide) ?_
              refine lv_iadd hx hb zd_Mo_run_145 ?_
              refine zp_Mo_done hx hb hts hown X zd_Mo_run_146 (fun H locs X => ?_)
              refine lv_iload hx hb zd_Mo_run_149 (lv_at hl 3 rfl) ?_
              refine lv_iload_n hx hb zd_Mo_run_151 rfl (lv_at hl 1 rfl) ?_
              refine lv_icmp_ne (tgt := 157) hx hb zd_Mo_run_152 (by decide) (fun g83 => ?_) (fun g83 => ?_)
              · rw [if_neg g83] at hf
                refine lv_iload hx hb zd_Mo_run_157 (lv_at hl 2 rfl) ?_
                refine lv_if_ne (tgt := 170) hx hb zd_Mo_run_159 (by decide) (fun g76 => ?_) (fun g76 => ?_)
                · rw [if_neg g76] at hf
                  refine lv_aload_n hx hb zd_Mo_run_170 rfl (lv_at hl 4 rfl) ?_
                  refine lv_iload hx hb zd_Mo_run_171 (lv_at hl 2 rfl) ?_
                  refine lv_bipush (v := 9) hx hb zd_Mo_run_173 (by decide) ?_
                  refine lv_bipush (v := 12) hx hb zd_Mo_run_175 (by decide) ?_
                  obtain ⟨r71, h75, hf⟩ := Option.bind_eq_some_iff.mp hf
                  refine zr_csP (As := [.int (σ 0 (σ 24 0).toNatClampNeg), .int (9 : Int32), .int (12 : Int32)]) (rest := [.ref (q 0)]) hx hb hml hown hts hl.1 X (zk_Mo_in l D q cI cZ h75) zkw_Mo_in zl_Mo_79 rfl rfl (Nat.le_of_ble_eq_true rfl) ⟨rfl, rfl⟩ ⟨Nat.le_of_ble_eq_true rfl, Nat.le_of_ble_eq_true rfl⟩ zd_Mo_run_177 (fun H locs X => ?_)
                  refine lv_if_eq (tgt := 193) hx hb zd_Mo_run_180 (by decide) (fun g74 => ?_) (fun g74 => ?_)
                  · rw [if_pos g74] at hf
                    refine lv_aload_n hx hb zd_Mo_run_193 rfl (lv_at hl 4 rfl) ?_
                    refine lv_iload hx hb zd_Mo_run_194 (lv_at hl 2 rfl) ?_
                    refine lv_iload hx hb zd_Mo_run_196 (lv_at hl 3 rfl) ?_
                    obtain ⟨u72, h73, hf⟩ := Option.bind_eq_some_iff.mp hf
                    refine zr_cvI (As := [.int (σ 0 (σ 24 0).toNatClampNeg), .int (σ 24 0)]) (rest := [.ref (q 0)]) (q0 := 0) (ci := 9) hx hb hml hown hts hl.1 X (zk_Mo_perform l D q cI cZ h73) zkw_Mo_perform zl_Mo_170 rfl rfl (Nat.le_of_ble_eq_true rfl) rfl rfl ⟨rfl, rfl⟩ ⟨Nat.le_of_ble_eq_true rfl, Nat.le_of_ble_eq_true rfl⟩ zd_Mo_run_198 (fun H locs X => ?_)
                    refine zp_Mo_place hx hb hts hown X zd_Mo_run_201 (fun H locs X => ?_)
                    refine lv_goto (tgt := 35) hx hb zd_Mo_run_204 (by decide) ?_
                    exact ih (zz_put u72.2 24 0 u72.1) x1 (x2 + (1 : Int32)) r69 _ _ _ X (lv_sub hl [4, 5, 0, 1] rfl) hf
                  · rw [if_neg g74] at hf
                    refine lv_iload hx hb zd_Mo_run_183 (lv_at hl 3 rfl) ?_
                    refine lv_iconst (v := 1) hx hb zd_Mo_run_185 (by decide) ?_
                    refine lv_iadd hx hb zd_Mo_run_186 ?_
                    refine lv_bipush (v := 31) hx hb zd_Mo_run_187 (by decide) ?_
                    refine lv_iand hx hb zd_Mo_run_189 ?_
                    refine lv_goto (tgt := 201) hx hb zd_Mo_run_190 (by decide) ?_
                    refine zp_Mo_place hx hb hts hown X zd_Mo_run_201 (fun H locs X => ?_)
                    refine lv_goto (tgt := 35) hx hb zd_Mo_run_204 (by decide) ?_
                    exact ih (zz_put (zz_put (zz_put (zz_put σ 26 0 ((σ 26 0) + (1 : Int32))) 19 (σ 24 0).toNatClampNeg (vp_nar .boolean (1 : Int32))) 25 0 (((zz_put (zz_put σ 26 0 ((σ 26 0) + (1 : Int32))) 19 (σ 24 0).toNatClampNeg (vp_nar .boolean (1 : Int32))) 25 0) + (1 : Int32))) 24 0 (((σ 24 0) + (1 : Int32)) &&& (31 : Int32))) x1 (x2 + (1 : Int32)) r69 _ _ _ X (lv_sub hl [4, 5, 0, 1] rfl) hf
                · rw [if_pos g76] at hf
                  refine lv_aload_n hx hb zd_Mo_run_162 rfl (lv_at hl 4 rfl) ?_
                  refine lv_iconst (v := 1) hx hb zd_Mo_run_163 (by decide) ?_
                  obtain ⟨hz, hf⟩ := zz_kz_some hf
                  refine zp_Mo_stopped hx hb hts hown X hz zd_Mo_run_164 (fun H locs X => ?_)
                  refine lv_goto (tgt := 204) hx hb zd_Mo_run_167 (by decide) ?_
                  refine lv_goto (tgt := 35) hx hb zd_Mo_run_204 (by decide) ?_
                  exact ih (zz_put (zz_put (zz_put (zz_put σ 26 0 ((σ 26 0) + (1 : Int32))) 19 (σ 24 0).toNatClampNeg (vp_nar .boolean (1 : Int32))) 25 0 (((zz_put (zz_put σ 26 0 ((σ 26 0) + (1 : Int32))) 19 (σ 24 0).toNatClampNeg (vp_nar .boolean (1 : Int32))) 25 0) + (1 : Int32))) 28 0 (1 : Int32)) x1 (x2 + (1 : Int32)) r69 _ _ _ X (lv_sub hl [4, 5, 0, 1] rfl) hf
              · rw [if_pos g83] at hf
                refine lv_iconst (v := -1) hx hb zd_Mo_run_155 (by decide) ?_
                refine lv_istore_n (lv' := [(3, .int (-1 : Int32)), (2, .int (x2 + (1 : Int32))), (5, .int (σ 0 (σ 24 0).toNatClampNeg)), (4, .int (σ 24 0)), (0, .ref (q 0)), (1, .int x1)]) hx hb zd_Mo_run_156 rfl hl (by decide) rfl (fun ls hl => ?_)
                refine lv_iload hx hb zd_Mo_run_157 (lv_at hl 2 rfl) ?_
                refine lv_if_ne (tgt := 170) hx hb zd_Mo_run_159 (by decide) (fun g82 => ?_) (fun g82 => ?_)
                · rw [if_neg g82] at hf
                  refine lv_aload_n hx hb zd_Mo_run_170 rfl (lv_at hl 4 rfl) ?_
                  refine lv_iload hx hb zd_Mo_run_171 (lv_at hl 2 rfl) ?_
                  refine lv_bipush (v := 9) hx hb zd_Mo_run_173 (by decide) ?_
                  refine lv_bipush (v := 12) hx hb zd_Mo_run_175 (by decide) ?_
                  obtain ⟨r77, h81, hf⟩ := Option.bind_eq_some_iff.mp hf
                  refine zr_csP (As := [.int (σ 0 (σ 24 0).toNatClampNeg), .int (9 : Int32), .int (12 : Int32)]) (rest := [.ref (q 0)]) hx hb hml hown hts hl.1 X (zk_Mo_in l D q cI cZ h81) zkw_Mo_in zl_Mo_79 rfl rfl (Nat.le_of_ble_eq_true rfl) ⟨rfl, rfl⟩ ⟨Nat.le_of_ble_eq_true rfl, Nat.le_of_ble_eq_true rfl⟩ zd_Mo_run_177 (fun H locs X => ?_)
                  refine lv_if_eq (tgt := 193) hx hb zd_Mo_run_180 (by decide) (fun g80 => ?_) (fun g80 => ?_)
                  · rw [if_pos g80] at hf
                    refine lv_aload_n hx hb zd_Mo_run_193 rfl (lv_at hl 4 rfl) ?_
                    refine lv_iload hx hb zd_Mo_run_194 (lv_at hl 2 rfl) ?_
                    refine lv_iload hx hb zd_Mo_run_196 (lv_at hl 3 rfl) ?_
                    obtain ⟨u78, h79, hf⟩ := Option.bind_eq_some_iff.mp hf
                    refine zr_cvI (As := [.int (σ 0 (σ 24 0).toNatClampNeg), .int (σ 24 0)]) (rest := [.ref (q 0)]) (q0 := 0) (ci := 9) hx hb hml hown hts hl.1 X (zk_Mo_perform l D q cI cZ h79) zkw_Mo_perform zl_Mo_170 rfl rfl (Nat.le_of_ble_eq_true rfl) rfl rfl ⟨rfl, rfl⟩ ⟨Nat.le_of_ble_eq_true rfl, Nat.le_of_ble_eq_true rfl⟩ zd_Mo_run_198 (fun H locs X => ?_)
                    refine zp_Mo_place hx hb hts hown X zd_Mo_run_201 (fun H locs X => ?_)
                    refine lv_goto (tgt := 35) hx hb zd_Mo_run_204 (by decide) ?_
                    exact ih (zz_put u78.2 24 0 u78.1) x1 (x2 + (1 : Int32)) (-1 : Int32) _ _ _ X (lv_sub hl [4, 5, 1, 0] rfl) hf
                  · rw [if_neg g80] at hf
                    refine lv_iload hx hb zd_Mo_run_183 (lv_at hl 3 rfl) ?_
                    refine lv_iconst (v := 1) hx hb zd_Mo_run_185 (by decide) ?_
                    refine lv_iadd hx hb zd_Mo_run_186 ?_
                    refine lv_bipush (v := 31) hx hb zd_Mo_run_187 (by decide) ?_
                    refine lv_iand hx hb zd_Mo_run_189 ?_
                    refine lv_goto (tgt := 201) hx hb zd_Mo_run_190 (by decide) ?_
                    refine zp_Mo_place hx hb hts hown X zd_Mo_run_201 (fun H locs X => ?_)
                    refine lv_goto (tgt := 35) hx hb zd_Mo_run_204 (by decide) ?_
                    exact ih (zz_put (zz_put (zz_put (zz_put σ 26 0 ((σ 26 0) + (1 : Int32))) 19 (σ 24 0).toNatClampNeg (vp_nar .boolean (1 : Int32))) 25 0 (((zz_put (zz_put σ 26 0 ((σ 26 0) + (1 : Int32))) 19 (σ 24 0).toNatClampNeg (vp_nar .boolean (1 : Int32))) 25 0) + (1 : Int32))) 24 0 (((σ 24 0) + (1 : Int32)) &&& (31 : Int32))) x1 (x2 + (1 : Int32)) (-1 : Int32) _ _ _ X (lv_sub hl [4, 5, 1, 0] rfl) hf
                · rw [if_pos g82] at hf
                  refine lv_aload_n hx hb zd_Mo_run_162 rfl (lv_at hl 4 rfl) ?_
                  refine lv_iconst (v := 1) hx hb zd_Mo_run_163 (by decide) ?_
                  obtain ⟨hz, hf⟩ := zz_kz_some hf
                  refine zp_Mo_stopped hx hb hts hown X hz zd_Mo_run_164 (fun H locs X => ?_)
                  refine lv_goto (tgt := 204) hx hb zd_Mo_run_167 (by decide) ?_
                  refine lv_goto (tgt := 35) hx hb zd_Mo_run_204 (by decide) ?_
                  exact ih (zz_put (zz_put (zz_put (zz_put σ 26 0 ((σ 26 0) + (1 : Int32))) 19 (σ 24 0).toNatClampNeg (vp_nar .boolean (1 : Int32))) 25 0 (((zz_put (zz_put σ 26 0 ((σ 26 0) + (1 : Int32))) 19 (σ 24 0).toNatClampNeg (vp_nar .boolean (1 : Int32))) 25 0) + (1 : Int32))) 28 0 (1 : Int32)) x1 (x2 + (1 : Int32)) (-1 : Int32) _ _ _ X (lv_sub hl [4, 5, 1, 0] rfl) hf
            · rw [if_neg g100] at hf
              refine lv_aload_n hx hb zd_Mo_run_113 rfl (lv_at hl 3 rfl) ?_
              refine lv_iload hx hb zd_Mo_run_114 (lv_at hl 1 rfl) ?_
              refine lv_iload hx hb zd_Mo_run_116 (lv_at hl 2 rfl) ?_
              obtain ⟨u84, h99, hf⟩ := Option.bind_eq_some_iff.mp hf
              refine zr_cvI (As := [.int (σ 0 (σ 24 0).toNatClampNeg), .int (σ 24 0)]) (rest := []) (q0 := 0) (ci := 9) hx hb hml hown hts hl.1 X (zk_Mo_access l D q cI cZ h99) zkw_Mo_access zl_Mo_164 rfl rfl (Nat.le_of_ble_eq_true rfl) rfl rfl ⟨rfl, rfl⟩ ⟨Nat.le_of_ble_eq_true rfl, Nat.le_of_ble_eq_true rfl⟩ zd_Mo_run_118 (fun H locs X => ?_)
              refine lv_if_ne (tgt := 136) hx hb zd_Mo_run_121 (by decide) (fun g98 => ?_) (fun g98 => ?_)
              · rw [if_neg g98] at hf
                refine lv_iinc (v := (x2 + (1 : Int32))) (lv' := [(2, .int (x2 + (1 : Int32))), (3, .int r69), (5, .int (σ 0 (σ 24 0).toNatClampNeg)), (4, .int (σ 24 0)), (0, .ref (q 0)), (1, .int x1)]) hx hb zd_Mo_run_136 hl (k := 5) rfl rfl (by decide) rfl (fun ls hl => ?_)
                refine lv_aload_n hx hb zd_Mo_run_139 rfl (lv_at hl 4 rfl) ?_
                refine lv_dup hx hb zd_Mo_run_140 rfl ?_
                refine zg_Mo_done hx hb hts hown X zd_Mo_run_141 ?_
                refine lv_iconst (v := 1) hx hb zd_Mo_run_144 (by decide) ?_
                refine lv_iadd hx hb zd_Mo_run_145 ?_
                refine zp_Mo_done hx hb hts hown X zd_Mo_run_146 (fun H locs X => ?_)
                refine lv_iload hx hb zd_Mo_run_149 (lv_at hl 3 rfl) ?_
                refine lv_iload_n hx hb zd_Mo_run_151 rfl (lv_at hl 1 rfl) ?_
                refine lv_icmp_ne (tgt := 157) hx hb zd_Mo_run_152 (by decide) (fun g97 => ?_) (fun g97 => ?_)
                · rw [if_neg g97] at hf
                  refine lv_iload hx hb zd_Mo_run_157 (lv_at hl 2 rfl) ?_
                  refine lv_if_ne (tgt := 170) hx hb zd_Mo_run_159 (by decide) (fun g90 => ?_) (fun g90 => ?_)
                  · rw [if_neg g90] at hf
                    refine lv_aload_n hx hb zd_Mo_run_170 rfl (lv_at hl 4 rfl) ?_
                    refine lv_iload hx hb zd_Mo_run_171 (lv_at hl 2 rfl) ?_
                    refine lv_bipush (v := 9) hx hb zd_Mo_run_173 (by decide) ?_
                    refine lv_bipush (v := 12) hx hb zd_Mo_run_175 (by decide) ?_
                    obtain ⟨r85, h89, hf⟩ := Option.bind_eq_some_iff.mp hf
                    refine zr_csP (As := [.int (σ 0 (σ 24 0).toNatClampNeg), .int (9 : Int32), .int (12 : Int32)]) (rest := [.ref (q 0)]) hx hb hml hown hts hl.1 X (zk_Mo_in l D q cI cZ h89) zkw_Mo_in zl_Mo_79 rfl rfl (Nat.le_of_ble_eq_true rfl) ⟨rfl, rfl⟩ ⟨Nat.le_of_ble_eq_true rfl, Nat.le_of_ble_eq_true rfl⟩ zd_Mo_run_177 (fun H locs X => ?_)
                    refine lv_if_eq (tgt := 193) hx hb zd_Mo_run_180 (by decide) (fun g88 => ?_) (fun g88 => ?_)
                    · rw [if_pos g88] at hf
                      refine lv_aload_n hx hb zd_Mo_run_193 rfl (lv_at hl 4 rfl) ?_
                      refine lv_iload hx hb zd_Mo_run_194 (lv_at hl 2 rfl) ?_
                      refine lv_iload hx hb zd_Mo_run_196 (lv_at hl 3 rfl) ?_
                      obtain ⟨u86, h87, hf⟩ := Option.bind_eq_some_iff.mp hf
                      refine zr_cvI (As := [.int (σ 0 (σ 24 0).toNatClampNeg), .int (σ 24 0)]) (rest := [.ref (q 0)]) (q0 := 0) (ci := 9) hx hb hml hown hts hl.1 X (zk_Mo_perform l D q cI cZ h87) zkw_Mo_perform zl_Mo_170 rfl rfl (Nat.le_of_ble_eq_true rfl) rfl rfl ⟨rfl, rfl⟩ ⟨Nat.le_of_ble_eq_true rfl, Nat.le_of_ble_eq_true rfl⟩ zd_Mo_run_198 (fun H locs X => ?_)
                      refine zp_Mo_place hx hb hts hown X zd_Mo_run_201 (fun H locs X => ?_)
                      refine lv_goto (tgt := 35) hx hb zd_Mo_run_204 (by decide) ?_
                      exact ih (zz_put u86.2 24 0 u86.1) x1 (x2 + (1 : Int32)) r69 _ _ _ X (lv_sub hl [4, 5, 0, 1] rfl) hf
                    · rw [if_neg g88] at hf
                      refine lv_iload hx hb zd_Mo_run_183 (lv_at hl 3 rfl) ?_
                      refine lv_iconst (v := 1) hx hb zd_Mo_run_185 (by decide) ?_
                      refine lv_iadd hx hb zd_Mo_run_186 ?_
                      refine lv_bipush (v := 31) hx hb zd_Mo_run_187 (by decide) ?_
                      refine lv_iand hx hb zd_Mo_run_189 ?_
                      refine lv_goto (tgt := 201) hx hb zd_Mo_run_190 (by decide) ?_
                      refine zp_Mo_place hx hb hts hown X zd_Mo_run_201 (fun H locs X => ?_)
                      refine lv_goto (tgt := 35) hx hb zd_Mo_run_204 (by decide) ?_
                      exact ih (zz_put (zz_put u84.2 25 0 ((u84.2 25 0) + (1 : Int32))) 24 0 (((σ 24 0) + (1 : Int32)) &&& (31 : Int32))) x1 (x2 + (1 : Int32)) r69 _ _ _ X (lv_sub hl [4, 5, 0, 1] rfl) hf
                  · rw [if_pos g90] at hf
                    refine lv_aload_n hx hb zd_Mo_run_162 rfl (lv_at hl 4 rfl) ?_
                    refine lv_iconst (v := 1) hx hb zd_Mo_run_163 (by decide) ?_
                    obtain ⟨hz, hf⟩ := zz_kz_some hf
                    refine zp_Mo_stopped hx hb hts hown X hz zd_Mo_run_164 (fun H locs X => ?_)
                    refine lv_goto (tgt := 204) hx hb zd_Mo_run_167 (by decide) ?_
                    refine lv_goto (tgt := 35) hx hb zd_Mo_run_204 (by decide) ?_
                    exact ih (zz_put (zz_put u84.2 25 0 ((u84.2 25 0) + (1 : Int32))) 28 0 (1 : Int32)) x1 (x2 + (1 : Int32)) r69 _ _ _ X (lv_sub hl [4, 5, 0, 1] rfl) hf
                · rw [if_pos g97] at hf
                  refine lv_iconst (v := -1) hx hb zd_Mo_run_155 (by decide) ?_
                  refine lv_istore_n (lv' := [(3, .int (-1 : Int32)), (2, .int (x2 + (1 : Int32))), (5, .int (σ 0 (σ 24 0).toNatClampNeg)), (4, .int (σ 24 0)), (0, .ref (q 0)), (1, .int x1)]) hx hb zd_Mo_run_156 rfl hl (by decide) rfl (fun ls hl => ?_)
                  refine lv_iload hx hb zd_Mo_run_157 (lv_at hl 2 rfl) ?_
                  refine lv_if_ne (tgt := 170) hx hb zd_Mo_run_159 (by decide) (fun g96 => ?_) (fun g96 => ?_)
                  · rw [if_neg g96] at hf
                    refine lv_aload_n hx hb zd_Mo_run_170 rfl (lv_at hl 4 rfl) ?_
                    refine lv_iload hx hb zd_Mo_run_171 (lv_at hl 2 rfl) ?_
                    refine lv_bipush (v := 9) hx hb zd_Mo_run_173 (by decide) ?_
                    refine lv_bipush (v := 12) hx hb zd_Mo_run_175 (by decide) ?_
                    obtain ⟨r91, h95, hf⟩ := Option.bind_eq_some_iff.mp hf
                    refine zr_csP (As := [.int (σ 0 (σ 24 0).toNatClampNeg), .int (9 : Int32), .int (12 : Int32)]) (rest := [.ref (q 0)]) hx hb hml hown hts hl.1 X (zk_Mo_in l D q cI cZ h95) zkw_Mo_in zl_Mo_79 rfl rfl (Nat.le_of_ble_eq_true rfl) ⟨rfl, rfl⟩ ⟨Nat.le_of_ble_eq_true rfl, Nat.le_of_ble_eq_true rfl⟩ zd_Mo_run_177 (fun H locs X => ?_)
                    refine lv_if_eq (tgt := 193) hx hb zd_Mo_run_180 (by decide) (fun g94 => ?_) (fun g94 => ?_)
                    · rw [if_pos g94] at hf
                      refine lv_aload_n hx hb zd_Mo_run_193 rfl (lv_at hl 4 rfl) ?_
                      refine lv_iload hx hb zd_Mo_run_194 (lv_at hl 2 rfl) ?_
                      refine lv_iload hx hb zd_Mo_run_196 (lv_at hl 3 rfl) ?_
                      obtain ⟨u92, h93, hf⟩ := Option.bind_eq_some_iff.mp hf
                      refine zr_cvI (As := [.int (σ 0 (σ 24 0).toNatClampNeg), .int (σ 24 0)]) (rest := [.ref (q 0)]) (q0 := 0) (ci := 9) hx hb hml hown hts hl.1 X (zk_Mo_perform l D q cI cZ h93) zkw_Mo_perform zl_Mo_170 rfl rfl (Nat.le_of_ble_eq_true rfl) rfl rfl ⟨rfl, rfl⟩ ⟨Nat.le_of_ble_eq_true rfl, Nat.le_of_ble_eq_true rfl⟩ zd_Mo_run_198 (fun H locs X => ?_)
                      refine zp_Mo_place hx hb hts hown X zd_Mo_run_201 (fun H locs X => ?_)
                      refine lv_goto (tgt := 35) hx hb zd_Mo_run_204 (by decide) ?_
                      exact ih (zz_put u92.2 24 0 u92.1) x1 (x2 + (1 : Int32)) (-1 : Int32) _ _ _ X (lv_sub hl [4, 5, 1, 0] rfl) hf
                    · rw [if_neg g94] at hf
                      refine lv_iload hx hb zd_Mo_run_183 (lv_at hl 3 rfl) ?_
                      refine lv_iconst (v := 1) hx hb zd_Mo_run_185 (by decide) ?_
                      refine lv_iadd hx hb zd_Mo_run_186 ?_
                      refine lv_bipush (v := 31) hx hb zd_Mo_run_187 (by decide) ?_
                      refine lv_iand hx hb zd_Mo_run_189 ?_
                      refine lv_goto (tgt := 201) hx hb zd_Mo_run_190 (by decide) ?_
                      refine zp_Mo_place hx hb hts hown X zd_Mo_run_201 (fun H locs X => ?_)
                      refine lv_goto (tgt := 35) hx hb zd_Mo_run_204 (by decide) ?_
                      exact ih (zz_put (zz_put u84.2 25 0 ((u84.2 25 0) + (1 : Int32))) 24 0 (((σ 24 0) + (1 : Int32)) &&& (31 : Int32))) x1 (x2 + (1 : Int32)) (-1 : Int32) _ _ _ X (lv_sub hl [4, 5, 1, 0] rfl) hf
                  · rw [if_pos g96] at hf
                    refine lv_aload_n hx hb zd_Mo_run_162 rfl (lv_at hl 4 rfl) ?_
                    refine lv_iconst (v := 1) hx hb zd_Mo_run_163 (by decide) ?_
                    obtain ⟨hz, hf⟩ := zz_kz_some hf
                    refine zp_Mo_stopped hx hb hts hown X hz zd_Mo_run_164 (fun H locs X => ?_)
                    refine lv_goto (tgt := 204) hx hb zd_Mo_run_167 (by decide) ?_
                    refine lv_goto (tgt := 35) hx hb zd_Mo_run_204 (by decide) ?_
                    exact ih (zz_put (zz_put u84.2 25 0 ((u84.2 25 0) + (1 : Int32))) 28 0 (1 : Int32)) x1 (x2 + (1 : Int32)) (-1 : Int32) _ _ _ X (lv_sub hl [4, 5, 1, 0] rfl) hf
              · rw [if_pos g98] at hf
                refine lv_aload_n hx hb zd_Mo_run_124 rfl (lv_at hl 3 rfl) ?_
                refine lv_iconst (v := 1) hx hb zd_Mo_run_125 (by decide) ?_
                obtain ⟨hz, hf⟩ := zz_kz_some hf
                refine zp_Mo_stopped hx hb hts hown X hz zd_Mo_run_126 (fun H locs X => ?_)
                refine lv_aload_n hx hb zd_Mo_run_129 rfl (lv_at hl 3 rfl) ?_
                refine lv_iconst (v := 3) hx hb zd_Mo_run_130 (by decide) ?_
                refine zp_Mo_thrown hx hb hts hown X zd_Mo_run_131 (fun H locs X => ?_)
                refine lv_iconst (v := 0) hx hb zd_Mo_run_134 (by decide) ?_
                exact zr_iret hx hb hr hlocks X (Option.some.inj hf) zd_Mo_run_135

set_option maxRecDepth 100000 in
set_option maxHeartbeats 4000000 in
theorem zk_Mo_run (l : Launch) (D : va_G) (q : Nat → Nat) (cI cZ : ClassId) {σ : St} {x1 : Int32} {out : (Int32 × St)} (hf : zf_Mo_run σ x1 = some out) : zI l D vwCl (zz_tys cI cZ) (wM q cI cZ) zy_Mo_run (.code zy_Mo_run zc_Mo_run 6 (some .int) :: zz_WS) zm_Mo_run [.ref (q 0), .int x1] σ out := by
  refine zI_of (by decide +kernel) (Nat.le_of_ble_eq_true rfl) (fun p e s m below meth c A ls hx hb hml hown hts hr hlocks X hl => ?_)
  have hl : lv_has ls 6 [(0, .ref (q 0)), (1, .int x1)] := hl
  unfold zf_Mo_run at hf
  refine lv_aload_n hx hb zd_Mo_run_0 rfl (lv_at hl 0 rfl) ?_
  refine lv_iload_n hx hb zd_Mo_run_1 rfl (lv_at hl 1 rfl) ?_
  refine lv_iconst (v := 1) hx hb zd_Mo_run_2 (by decide) ?_
  refine lv_sipush (v := 200) hx hb zd_Mo_run_3 (by decide) ?_
  obtain ⟨r1, h111, hf⟩ := Option.bind_eq_some_iff.mp hf
  refine zr_csP (As := [.int x1, .int (1 : Int32), .int (200 : Int32)]) (rest := [.ref (q 0)]) hx hb hml hown hts hl.1 X (zk_Mo_in l D q cI cZ h111) zkw_Mo_in zl_Mo_79 rfl rfl (Nat.le_of_ble_eq_true rfl) ⟨rfl, rfl⟩ ⟨Nat.le_of_ble_eq_true rfl, Nat.le_of_ble_eq_true rfl⟩ zd_Mo_run_6 (fun H locs X => ?_)
  obtain ⟨u2, h110, hf⟩ := Option.bind_eq_some_iff.mp hf
  refine zr_cvI (As := [.int r1]) (rest := []) (q0 := 0) (ci := 9) hx hb hml hown hts hl.1 X (zk_Mo_bad l D q cI cZ h110) zkw_Mo_bad zl_Mo_87 rfl rfl (Nat.le_of_ble_eq_true rfl) rfl rfl ⟨rfl, rfl⟩ ⟨Nat.le_of_ble_eq_true rfl, Nat.le_of_ble_eq_true rfl⟩ zd_Mo_run_9 (fun H locs X => ?_)
  refine lv_if_eq (tgt := 17) hx hb zd_Mo_run_12 (by decide) (fun g109 => ?_) (fun g109 => ?_)
  · rw [if_pos g109] at hf
    refine lv_aload_n hx hb zd_Mo_run_17 rfl (lv_at hl 0 rfl) ?_
    refine zg_Mo_stopped hx hb hts hown X zd_Mo_run_18 ?_
    refine lv_if_eq (tgt := 31) hx hb zd_Mo_run_21 (by decide) (fun g108 => ?_) (fun g108 => ?_)
    · rw [if_pos g108] at hf
      refine lv_iconst (v := 0) hx hb zd_Mo_run_31 (by decide) ?_
      refine lv_istore_n (lv' := [(2, .int (0 : Int32)), (0, .ref (q 0)), (1, .int x1)]) hx hb zd_Mo_run_32 rfl hl (by decide) rfl (fun ls hl => ?_)
      refine lv_iconst (v := -1) hx hb zd_Mo_run_33 (by decide) ?_
      refine lv_istore_n (lv' := [(3, .int (-1 : Int32)), (2, .int (0 : Int32)), (0, .ref (q 0)), (1, .int x1)]) hx hb zd_Mo_run_34 rfl hl (by decide) rfl (fun ls hl => ?_)
      refine zw_Mo_run_L35 hx hb hml hown hts hr hlocks out _ (fun s107 s107_2 H locs ls X hl hf => ?_) 300 u2.2 x1 (0 : Int32) (-1 : Int32) _ _ _ X (lv_sub hl [2, 3, 1, 0] rfl) hf
      refine lv_iload_n hx hb zd_Mo_run_207 rfl (lv_at hl 0 rfl) ?_
      exact zr_iret hx hb hr hlocks X (Option.some.inj hf) zd_Mo_run_208
    · rw [if_neg g108] at hf
      refine lv_aload_n hx hb zd_Mo_run_24 rfl (lv_at hl 0 rfl) ?_
      refine lv_iconst (v := 2) hx hb zd_Mo_run_25 (by decide) ?_
      refine zp_Mo_thrown hx hb hts hown X zd_Mo_run_26 (fun H locs X => ?_)
      refine lv_iconst (v := 0) hx hb zd_Mo_run_29 (by decide) ?_
      exact zr_iret hx hb hr hlocks X (Option.some.inj hf) zd_Mo_run_30
  · rw [if_neg g109] at hf
    refine lv_iconst (v := 0) hx hb zd_Mo_run_15 (by decide) ?_
    exact zr_iret hx hb hr hlocks X (Option.some.inj hf) zd_Mo_run_16

set_option maxRecDepth 100000 in
set_option maxHeartbeats 4000000 in
theorem zk_Mo_leads (l : Launch) (D : va_G) (q : Nat → Nat) (cI cZ : ClassId) {σ : St} {x1 x2 : Int32} {out : Int32} (hf : zf_Mo_leads σ x1 x2 = some out) : zI l D vwCl (zz_tys cI cZ) (wM q cI cZ) zy_Mo_leads (.code zy_Mo_leads zc_Mo_leads 3 (some .int) :: zz_WS) zm_Mo_leads [.ref (q 0), .int x1, .int x2] σ (out, σ) := by
  refine zI_of (by decide +kernel) (Nat.le_of_ble_eq_true rfl) (fun p e s m below meth c A ls hx hb hml hown hts hr hlocks X hl => ?_)
  have hl : lv_has ls 3 [(0, .ref (q 0)), (1, .int x1), (2, .int x2)] := hl
  unfold zf_Mo_leads at hf
  refine lv_aload_n hx hb zd_Mo_leads_0 rfl (lv_at hl 0 rfl) ?_
  refine zg_Mo_rests hx hb hts hown X zd_Mo_leads_1 ?_
  refine lv_iload_n hx hb zd_Mo_leads_4 rfl (lv_at hl 2 rfl) ?_
  obtain ⟨hin, hf⟩ := zz_ck_some hf
  refine za_Mo_rests hx hb X hin zd_Mo_leads_5 ?_
  refine lv_if_gt (tgt := 36) hx hb zd_Mo_leads_6 (by decide) (fun g4 => ?_) (fun g4 => ?_)
  · rw [if_pos g4] at hf
    refine lv_iconst (v := 0) hx hb zd_Mo_leads_36 (by decide) ?_
    exact zr_iretP hx hb hr hlocks X (Option.some.inj hf) zd_Mo_leads_37
  · rw [if_neg g4] at hf
    refine lv_iload_n hx hb zd_Mo_leads_9 rfl (lv_at hl 1 rfl) ?_
    refine lv_aload_n hx hb zd_Mo_leads_10 rfl (lv_at hl 0 rfl) ?_
    refine zg_Mo_address hx hb hts hown X zd_Mo_leads_11 ?_
    refine lv_iload_n hx hb zd_Mo_leads_14 rfl (lv_at hl 2 rfl) ?_
    obtain ⟨hin, hf⟩ := zz_ck_some hf
    refine za_Mo_address hx hb X hin zd_Mo_leads_15 ?_
    refine lv_icmp_lt (tgt := 36) hx hb zd_Mo_leads_16 (by decide) (fun g3 => ?_) (fun g3 => ?_)
    · rw [if_pos g3] at hf
      refine lv_iconst (v := 0) hx hb zd_Mo_leads_36 (by decide) ?_
      exact zr_iretP hx hb hr hlocks X (Option.some.inj hf) zd_Mo_leads_37
    · rw [if_neg g3] at hf
      refine lv_iload_n hx hb zd_Mo_leads_19 rfl (lv_at hl 1 rfl) ?_
      refine lv_aload_n hx hb zd_Mo_leads_20 rfl (lv_at hl 0 rfl) ?_
      refine zg_Mo_address hx hb hts hown X zd_Mo_leads_21 ?_
      refine lv_iload_n hx hb zd_Mo_leads_24 rfl (lv_at hl 2 rfl) ?_
      obtain ⟨hin, hf⟩ := zz_ck_some hf
      refine za_Mo_address hx hb X hin zd_Mo_leads_25 ?_
      refine lv_aload_n hx hb zd_Mo_leads_26 rfl (lv_at hl 0 rfl) ?_
      refine zg_Mo_size hx hb hts hown X zd_Mo_leads_27 ?_
      refine lv_iload_n hx hb zd_Mo_leads_30 rfl (lv_at hl 2 rfl) ?_
      obtain ⟨hin, hf⟩ := zz_ck_some hf
      refine za_Mo_size hx hb X hin zd_Mo_leads_31 ?_
      refine lv_iadd hx hb zd_Mo_leads_32 ?_
      refine lv_icmp_lt (tgt := 38) hx hb zd_Mo_leads_33 (by decide) (fun g2 => ?_) (fun g2 => ?_)
      · rw [if_pos g2] at hf
        refine lv_iload_n hx hb zd_Mo_leads_38 rfl (lv_at hl 1 rfl) ?_
        refine lv_aload_n hx hb zd_Mo_leads_39 rfl (lv_at hl 0 rfl) ?_
        refine zg_Mo_address hx hb hts hown X zd_Mo_leads_40 ?_
        refine lv_iload_n hx hb zd_Mo_leads_43 rfl (lv_at hl 2 rfl) ?_
        obtain ⟨hin, hf⟩ := zz_ck_some hf
        refine za_Mo_address hx hb X hin zd_Mo_leads_44 ?_
        refine lv_icmp_ne (tgt := 52) hx hb zd_Mo_leads_45 (by decide) (fun g1 => ?_) (fun g1 => ?_)
        · rw [if_neg g1] at hf
          refine lv_iconst (v := 1) hx hb zd_Mo_leads_52 (by decide) ?_
          exact zr_iretP hx hb hr hlocks X (Option.some.inj hf) zd_Mo_leads_53
        · rw [if_pos g1] at hf
          refine lv_iconst (v := 2) hx hb zd_Mo_leads_48 (by decide) ?_
          refine lv_goto (tgt := 53) hx hb zd_Mo_leads_49 (by decide) ?_
          exact zr_iretP hx hb hr hlocks X (Option.some.inj hf) zd_Mo_leads_53
      · rw [if_neg g2] at hf
        refine lv_iconst (v := 0) hx hb zd_Mo_leads_36 (by decide) ?_
        exact zr_iretP hx hb hr hlocks X (Option.some.inj hf) zd_Mo_leads_37

set_option maxRecDepth 100000 in
set_option maxHeartbeats 4000000 in
theorem zw_Mo_wordsLead_L6 {p : Program} {l : Launch} {e : Env} {s : State} {m : MethodId} {args : Array Value} {below : List Frame} {meth : Method} {c : Code} {D : va_G} {q : Nat → Nat} {cI cZ : ClassId} {A : Nat → Prop} (hx : p.tables.exec = Jvm.exec) (hb : c.code = zc_Mo_wordsLead) (hml : c.maxLocals = 7) (hown : s.vm.findClass zR_Mo = some m.cls) (hts : ∀ w ∈ zz_WS, w.before args s = true) (hr : meth.sig.returnType = (some .int)) (hlocks : meth.locks = false) (out : Int32) (σ : St) (kx : Int32 → Option Int32) (hkx : ∀ (x4 : Int32) (H : Heap) (locs : List Loc) (ls : Array Slot), zz_X D vwCl (zz_tys cI cZ) A s H locs ((wM q cI cZ) σ) → lv_has ls 7 [(4, .int x4)] → kx x4 = some out → W p l e zm_Mo_wordsLead s m args below meth c H locs 0 0 (MQ below (zq_I D vwCl (zz_tys cI cZ) (wM q cI cZ) A (out, σ)) args s 0 0 A) (F0 m 99 ls [])) : ∀ (n : Nat) (x2 x3 x4 x5 : Int32) (H : Heap) (locs : List Loc) (ls : Array Slot), zz_X D vwCl (zz_tys cI cZ) A s H locs ((wM q cI cZ) σ) → lv_has ls 7 [(0, .ref (q 0)), (2, .int x2), (3, .int x3), (4, .int x4), (5, .int x5)] → zf_Mo_wordsLead_L6 σ kx n x2 x3 x4 x5 = some out → W p l e zm_Mo_wordsLead s m args below meth c H locs 0 0 (MQ below (zq_I D vwCl (zz_tys cI cZ) (wM q cI cZ) A (out, σ)) args s 0 0 A) (F0 m 6 ls []) := by
  intro n
  induction n with
  | zero =>
    intro x2 x3 x4 x5 H locs ls X hl hf
    exact absurd hf (by simp [zf_Mo_wordsLead_L6])
  | succ n ih =>
    intro x2 x3 x4 x5 H locs ls X hl hf
    rw [zf_Mo_wordsLead_L6] at hf
    refine lv_iload hx hb zd_Mo_wordsLead_6 (lv_at hl 4 rfl) ?_
    refine lv_iconst (v := 3) hx hb zd_Mo_wordsLead_8 (by decide) ?_
    refine lv_iadd hx hb zd_Mo_wordsLead_9 ?_
    refine lv_iload_n hx hb zd_Mo_wordsLead_10 rfl (lv_at hl 1 rfl) ?_
    refine lv_icmp_ge (tgt := 99) hx hb zd_Mo_wordsLead_11 (by decide) (fun g10 => ?_) (fun g10 => ?_)
    · rw [if_pos g10] at hf
      exact hkx x4 _ _ _ X (lv_sub hl [3] rfl) hf
    · rw [if_neg g10] at hf
      refine lv_aload_n hx hb zd_Mo_wordsLead_14 rfl (lv_at hl 0 rfl) ?_
      refine lv_iload hx hb zd_Mo_wordsLead_15 (lv_at hl 4 rfl) ?_
      obtain ⟨r1, h9, hf⟩ := Option.bind_eq_some_iff.mp hf
      refine zr_cvP (As := [.int x5]) (rest := []) (q0 := 0) (ci := 9) hx hb hml hown hts hl.1 X (zk_Mo_wordKnown l D q cI cZ h9) zkw_Mo_wordKnown zl_Mo_122 rfl rfl (Nat.le_of_ble_eq_true rfl) rfl rfl ⟨rfl, rfl⟩ ⟨Nat.le_of_ble_eq_true rfl, Nat.le_of_ble_eq_true rfl⟩ zd_Mo_wordsLead_17 (fun H locs X => ?_)
      refine lv_bipush (v := 15) hx hb zd_Mo_wordsLead_20 (by decide) ?_
      refine lv_icmp_ne (tgt := 93) hx hb zd_Mo_wordsLead_22 (by decide) (fun g8 => ?_) (fun g8 => ?_)
      · rw [if_neg g8] at hf
        refine lv_iinc (v := (x5 + (4 : Int32))) (lv' := [(5, .int (x5 + (4 : Int32))), (0, .ref (q 0)), (2, .int x2), (3, .int x3), (4, .int x4)]) hx hb zd_Mo_wordsLead_93 hl (k := 4) rfl rfl (by decide) rfl (fun ls hl => ?_)
        refine lv_goto (tgt := 6) hx hb zd_Mo_wordsLead_96 (by decide) ?_
        exact ih x2 x3 x4 (x5 + (4 : Int32)) _ _ _ X (lv_sub hl [1, 2, 3, 4, 0] rfl) hf
      · rw [if_pos g8] at hf
        refine lv_aload_n hx hb zd_Mo_wordsLead_25 rfl (lv_at hl 0 rfl) ?_
        refine zg_Mo_open hx hb hts hown X zd_Mo_wordsLead_26 ?_
        refine lv_iload hx hb zd_Mo_wordsLead_29 (lv_at hl 4 rfl) ?_
        obtain ⟨hin, hf⟩ := zz_ck_some hf
        refine za_Mo_open hx hb X hin zd_Mo_wordsLead_31 ?_
        refine lv_aload_n hx hb zd_Mo_wordsLead_32 rfl (lv_at hl 0 rfl) ?_
        refine zg_Mo_open hx hb hts hown X zd_Mo_wordsLead_33 ?_
        refine lv_iload hx hb zd_Mo_wordsLead_36 (lv_at hl 4 rfl) ?_
        refine lv_iconst (v := 1) hx hb zd_Mo_wordsLead_38 (by decide) ?_
        refine lv_iadd hx hb zd_Mo_wordsLead_39 ?_
        obtain ⟨hin, hf⟩ := zz_ck_some hf
        refine za_Mo_open hx hb X hin zd_Mo_wordsLead_40 ?_
        refine lv_iadd hx hb zd_Mo_wordsLead_41 ?_
        refine lv_aload_n hx hb zd_Mo_wordsLead_42 rfl (lv_at hl 0 rfl) ?_
        refine zg_Mo_open hx hb hts hown X zd_Mo_wordsLead_43 ?_
        refine lv_iload hx hb zd_Mo_wordsLead_46 (lv_at hl 4 rfl) ?_
        refine lv_iconst (v := 2) hx hb zd_Mo_wordsLead_48 (by decide) ?_
        refine lv_iadd hx hb zd_Mo_wordsLead_49 ?_
        obtain ⟨hin, hf⟩ := zz_ck_some hf
        refine za_Mo_open hx hb X hin zd_Mo_wordsLead_50 ?_
        refine lv_iadd hx hb zd_Mo_wordsLead_51 ?_
        refine lv_aload_n hx hb zd_Mo_wordsLead_52 rfl (lv_at hl 0 rfl) ?_
        refine zg_Mo_open hx hb hts hown X zd_Mo_wordsLead_53 ?_
        refine lv_iload hx hb zd_Mo_wordsLead_56 (lv_at hl 4 rfl) ?_
        refine lv_iconst (v := 3) hx hb zd_Mo_wordsLead_58 (by decide) ?_
        refine lv_iadd hx hb zd_Mo_wordsLead_59 ?_
        obtain ⟨hin, hf⟩ := zz_ck_some hf
        refine za_Mo_open hx hb X hin zd_Mo_wordsLead_60 ?_
        refine lv_iadd hx hb zd_Mo_wordsLead_61 ?_
        refine lv_iconst (v := 4) hx hb zd_Mo_wordsLead_62 (by decide) ?_
        refine lv_icmp_eq (tgt := 69) hx hb zd_Mo_wordsLead_63 (by decide) (fun g7 => ?_) (fun g7 => ?_)
        · rw [if_pos g7] at hf
          refine lv_aload_n hx hb zd_Mo_wordsLead_69 rfl (lv_at hl 0 rfl) ?_
          refine lv_aload_n hx hb zd_Mo_wordsLead_70 rfl (lv_at hl 0 rfl) ?_
          refine lv_iload hx hb zd_Mo_wordsLead_71 (lv_at hl 4 rfl) ?_
          obtain ⟨r2, h6, hf⟩ := Option.bind_eq_some_iff.mp hf
          refine zr_cvP (As := [.int x5]) (rest := [.ref (q 0)]) (q0 := 0) (ci := 9) hx hb hml hown hts hl.1 X (zk_Mo_word l D q cI cZ h6) zkw_Mo_word zl_Mo_119 rfl rfl (Nat.le_of_ble_eq_true rfl) rfl rfl ⟨rfl, rfl⟩ ⟨Nat.le_of_ble_eq_true rfl, Nat.le_of_ble_eq_true rfl⟩ zd_Mo_wordsLead_73 (fun H locs X => ?_)
          refine lv_iload_n hx hb zd_Mo_wordsLead_76 rfl (lv_at hl 2 rfl) ?_
          obtain ⟨r3, h5, hf⟩ := Option.bind_eq_some_iff.mp hf
          refine zr_cvP (As := [.int r2, .int x3]) (rest := []) (q0 := 0) (ci := 9) hx hb hml hown hts hl.1 X (zk_Mo_leads l D q cI cZ h5) zkw_Mo_leads zl_Mo_173 rfl rfl (Nat.le_of_ble_eq_true rfl) rfl rfl ⟨rfl, rfl⟩ ⟨Nat.le_of_ble_eq_true rfl, Nat.le_of_ble_eq_true rfl⟩ zd_Mo_wordsLead_77 (fun H locs X => ?_)
          refine lv_istore (lv' := [(6, .int r3), (0, .ref (q 0)), (2, .int x2), (3, .int x3), (4, .int x4), (5, .int x5)]) hx hb zd_Mo_wordsLead_80 hl (by decide) rfl (fun ls hl => ?_)
          refine lv_iload hx hb zd_Mo_wordsLead_82 (lv_at hl 0 rfl) ?_
          refine lv_iload hx hb zd_Mo_wordsLead_84 (lv_at hl 4 rfl) ?_
          refine lv_icmp_le (tgt := 93) hx hb zd_Mo_wordsLead_86 (by decide) (fun g4 => ?_) (fun g4 => ?_)
          · rw [if_pos g4] at hf
            refine lv_iinc (v := (x5 + (4 : Int32))) (lv' := [(5, .int (x5 + (4 : Int32))), (6, .int r3), (0, .ref (q 0)), (2, .int x2), (3, .int x3), (4, .int x4)]) hx hb zd_Mo_wordsLead_93 hl (k := 5) rfl rfl (by decide) rfl (fun ls hl => ?_)
            refine lv_goto (tgt := 6) hx hb zd_Mo_wordsLead_96 (by decide) ?_
            exact ih x2 x3 x4 (x5 + (4 : Int32)) _ _ _ X (lv_sub hl [2, 3, 4, 5, 0] rfl) hf
          · rw [if_neg g4] at hf
            refine lv_iload hx hb zd_Mo_wordsLead_89 (lv_at hl 0 rfl) ?_
            refine lv_istore (lv' := [(4, .int r3), (6, .int r3), (0, .ref (q 0)), (2, .int x2), (3, .int x3), (5, .int x5)]) hx hb zd_Mo_wordsLead_91 hl (by decide) rfl (fun ls hl => ?_)
            refine lv_iinc (v := (x5 + (4 : Int32))) (lv' := [(5, .int (x5 + (4 : Int32))), (4, .int r3), (6, .int r3), (0, .ref (q 0)), (2, .int x2), (3, .int x3)]) hx hb zd_Mo_wordsLead_93 hl (k := 5) rfl rfl (by decide) rfl (fun ls hl => ?_)
            refine lv_goto (tgt := 6) hx hb zd_Mo_wordsLead_96 (by decide) ?_
            exact ih x2 x3 r3 (x5 + (4 : Int32)) _ _ _ X (lv_sub hl [3, 4, 5, 1, 0] rfl) hf
        · rw [if_neg g7] at hf
          refine lv_goto (tgt := 93) hx hb zd_Mo_wordsLead_66 (by decide) ?_
          refine lv_iinc (v := (x5 + (4 : Int32))) (lv' := [(5, .int (x5 + (4 : Int32))), (0, .ref (q 0)), (2, .int x2), (3, .int x3), (4, .int x4)]) hx hb zd_Mo_wordsLead_93 hl (k := 4) rfl rfl (by decide) rfl (fun ls hl => ?_)
          refine lv_goto (tgt := 6) hx hb zd_Mo_wordsLead_96 (by decide) ?_
          exact ih x2 x3 x4 (x5 + (4 : Int32)) _ _ _ X (lv_sub hl [1, 2, 3, 4, 0] rfl) hf

set_option maxRecDepth 100000 in
set_option maxHeartbeats 4000000 in
theorem zk_Mo_wordsLead (l : Launch) (D : va_G) (q : Nat → Nat) (cI cZ : ClassId) {σ : St} {x1 x2 x3 : Int32} {out : Int32} (hf : zf_Mo_wordsLead σ x1 x2 x3 = some out) : zI l D vwCl (zz_tys cI cZ) (wM q cI cZ) zy_Mo_wordsLead (.code zy_Mo_wordsLead zc_Mo_wordsLead 7 (some .int) :: zz_WS) zm_Mo_wordsLead [.ref (q 0), .int x1, .int x2, .int x3] σ (out, σ) := by
  refine zI_of (by decide +kernel) (Nat.le_of_ble_eq_true rfl) (fun p e s m below meth c A ls hx hb hml hown hts hr hlocks X hl => ?_)
  have hl : lv_has ls 7 [(0, .ref (q 0)), (1, .int x1), (2, .int x2), (3, .int x3)] := hl
  unfold zf_Mo_wordsLead at hf
  refine lv_iconst (v := 0) hx hb zd_Mo_wordsLead_0 (by decide) ?_
  refine lv_istore (lv' := [(4, .int (0 : Int32)), (0, .ref (q 0)), (1, .int x1), (2, .int x2), (3, .int x3)]) hx hb zd_Mo_wordsLead_1 hl (by decide) rfl (fun ls hl => ?_)
  refine lv_iload_n hx hb zd_Mo_wordsLead_3 rfl (lv_at hl 2 rfl) ?_
  refine lv_istore (lv' := [(5, .int x1), (4, .int (0 : Int32)), (0, .ref (q 0)), (1, .int x1), (2, .int x2), (3, .int x3)]) hx hb zd_Mo_wordsLead_4 hl (by decide) rfl (fun ls hl => ?_)
  refine zw_Mo_wordsLead_L6 hx hb hml hown hts hr hlocks out σ _ (fun y_4 H locs ls X hl hf => ?_) 300 x2 x3 (0 : Int32) x1 _ _ _ X (lv_sub hl [2, 4, 5, 1, 0] rfl) hf
  refine lv_iload hx hb zd_Mo_wordsLead_99 (lv_at hl 0 rfl) ?_
  exact zr_iretP hx hb hr hlocks X (Option.some.inj hf) zd_Mo_wordsLead_101

set_option maxRecDepth 100000 in
set_option maxHeartbeats 4000000 in
theorem zw_Mo_rootsLead_L11 {p : Program} {l : Launch} {e : Env} {s : State} {m : MethodId} {args : Array Value} {below : List Frame} {meth : Method} {c : Code} {D : va_G} {q : Nat → Nat} {cI cZ : ClassId} {A : Nat → Prop} (hx : p.tables.exec = Jvm.exec) (hb : c.code = zc_Mo_rootsLead) (hml : c.maxLocals = 5) (hown : s.vm.findClass zR_Mo = some m.cls) (hts : ∀ w ∈ zz_WS, w.before args s = true) (hr : meth.sig.returnType = (some .int)) (hlocks : meth.locks = false) (out : Int32) (σ : St) (kx : Int32 → Option Int32) (hkx : ∀ (x2 : Int32) (H : Heap) (locs : List Loc) (ls : Array Slot), zz_X D vwCl (zz_tys cI cZ) A s H locs ((wM q cI cZ) σ) → lv_has ls 5 [(2, .int x2)] → kx x2 = some out → W p l e zm_Mo_rootsLead s m args below meth c H locs 0 0 (MQ below (zq_I D vwCl (zz_tys cI cZ) (wM q cI cZ) A (out, σ)) args s 0 0 A) (F0 m 60 ls [])) : ∀ (n : Nat) (x1 x2 x3 : Int32) (H : Heap) (locs : List Loc) (ls : Array Slot), zz_X D vwCl (zz_tys cI cZ) A s H locs ((wM q cI cZ) σ) → lv_has ls 5 [(0, .ref (q 0)), (1, .int x1), (2, .int x2), (3, .int x3)] → zf_Mo_rootsLead_L11 σ kx n x1 x2 x3 = some out → W p l e zm_Mo_rootsLead s m args below meth c H locs 0 0 (MQ below (zq_I D vwCl (zz_tys cI cZ) (wM q cI cZ) A (out, σ)) args s 0 0 A) (F0 m 11 ls []) := by
  intro n
  induction n with
  | zero =>
    intro x1 x2 x3 H locs ls X hl hf
    exact absurd hf (by simp [zf_Mo_rootsLead_L11])
  | succ n ih =>
    intro x1 x2 x3 H locs ls X hl hf
    rw [zf_Mo_rootsLead_L11] at hf
    refine lv_iload_n hx hb zd_Mo_rootsLead_11 rfl (lv_at hl 3 rfl) ?_
    refine lv_bipush (v := 8) hx hb zd_Mo_rootsLead_12 (by decide) ?_
    refine lv_icmp_ge (tgt := 60) hx hb zd_Mo_rootsLead_14 (by decide) (fun g7 => ?_) (fun g7 => ?_)
    · rw [if_pos g7] at hf
      exact hkx x2 _ _ _ X (lv_sub hl [2] rfl) hf
    · rw [if_neg g7] at hf
      refine lv_aload_n hx hb zd_Mo_rootsLead_17 rfl (lv_at hl 0 rfl) ?_
      refine zg_Mo_sure hx hb hts hown X zd_Mo_rootsLead_18 ?_
      refine lv_iload_n hx hb zd_Mo_rootsLead_21 rfl (lv_at hl 3 rfl) ?_
      obtain ⟨hin, hf⟩ := zz_ck_some hf
      refine za_Mo_sure hx hb X hin zd_Mo_rootsLead_22 ?_
      refine lv_bipush (v := 15) hx hb zd_Mo_rootsLead_23 (by decide) ?_
      refine lv_icmp_ne (tgt := 42) hx hb zd_Mo_rootsLead_25 (by decide) (fun g6 => ?_) (fun g6 => ?_)
      · rw [if_neg g6] at hf
        refine lv_iconst (v := 0) hx hb zd_Mo_rootsLead_42 (by decide) ?_
        refine lv_istore (lv' := [(4, .int (0 : Int32)), (0, .ref (q 0)), (1, .int x1), (2, .int x2), (3, .int x3)]) hx hb zd_Mo_rootsLead_43 hl (by decide) rfl (fun ls hl => ?_)
        refine lv_iload hx hb zd_Mo_rootsLead_45 (lv_at hl 0 rfl) ?_
        refine lv_iload_n hx hb zd_Mo_rootsLead_47 rfl (lv_at hl 3 rfl) ?_
        refine lv_icmp_le (tgt := 54) hx hb zd_Mo_rootsLead_48 (by decide) (fun g2 => ?_) (fun g2 => ?_)
        · rw [if_pos g2] at hf
          refine lv_iinc (v := (x3 + (1 : Int32))) (lv' := [(3, .int (x3 + (1 : Int32))), (4, .int (0 : Int32)), (0, .ref (q 0)), (1, .int x1), (2, .int x2)]) hx hb zd_Mo_rootsLead_54 hl (k := 4) rfl rfl (by decide) rfl (fun ls hl => ?_)
          refine lv_goto (tgt := 11) hx hb zd_Mo_rootsLead_57 (by decide) ?_
          exact ih x1 x2 (x3 + (1 : Int32)) _ _ _ X (lv_sub hl [2, 3, 4, 0] rfl) hf
        · rw [if_neg g2] at hf
          refine lv_iload hx hb zd_Mo_rootsLead_51 (lv_at hl 0 rfl) ?_
          refine lv_istore_n (lv' := [(2, .int (0 : Int32)), (4, .int (0 : Int32)), (0, .ref (q 0)), (1, .int x1), (3, .int x3)]) hx hb zd_Mo_rootsLead_53 rfl hl (by decide) rfl (fun ls hl => ?_)
          refine lv_iinc (v := (x3 + (1 : Int32))) (lv' := [(3, .int (x3 + (1 : Int32))), (2, .int (0 : Int32)), (4, .int (0 : Int32)), (0, .ref (q 0)), (1, .int x1)]) hx hb zd_Mo_rootsLead_54 hl (k := 4) rfl rfl (by decide) rfl (fun ls hl => ?_)
          refine lv_goto (tgt := 11) hx hb zd_Mo_rootsLead_57 (by decide) ?_
          exact ih x1 (0 : Int32) (x3 + (1 : Int32)) _ _ _ X (lv_sub hl [3, 4, 1, 0] rfl) hf
      · rw [if_pos g6] at hf
        refine lv_aload_n hx hb zd_Mo_rootsLead_28 rfl (lv_at hl 0 rfl) ?_
        refine lv_aload_n hx hb zd_Mo_rootsLead_29 rfl (lv_at hl 0 rfl) ?_
        refine zg_Mo_register hx hb hts hown X zd_Mo_rootsLead_30 ?_
        refine lv_iload_n hx hb zd_Mo_rootsLead_33 rfl (lv_at hl 3 rfl) ?_
        obtain ⟨hin, hf⟩ := zz_ck_some hf
        refine za_Mo_register hx hb X hin zd_Mo_rootsLead_34 ?_
        refine lv_iload_n hx hb zd_Mo_rootsLead_35 rfl (lv_at hl 1 rfl) ?_
        obtain ⟨r3, h5, hf⟩ := Option.bind_eq_some_iff.mp hf
        refine zr_cvP (As := [.int (σ 8 x3.toNatClampNeg), .int x1]) (rest := []) (q0 := 0) (ci := 9) hx hb hml hown hts hl.1 X (zk_Mo_leads l D q cI cZ h5) zkw_Mo_leads zl_Mo_173 rfl rfl (Nat.le_of_ble_eq_true rfl) rfl rfl ⟨rfl, rfl⟩ ⟨Nat.le_of_ble_eq_true rfl, Nat.le_of_ble_eq_true rfl⟩ zd_Mo_rootsLead_36 (fun H locs X => ?_)
        refine lv_goto (tgt := 43) hx hb zd_Mo_rootsLead_39 (by decide) ?_
        refine lv_istore (lv' := [(4, .int r3), (0, .ref (q 0)), (1, .int x1), (2, .int x2), (3, .int x3)]) hx hb zd_Mo_rootsLead_43 hl (by decide) rfl (fun ls hl => ?_)
        refine lv_iload hx hb zd_Mo_rootsLead_45 (lv_at hl 0 rfl) ?_
        refine lv_iload_n hx hb zd_Mo_rootsLead_47 rfl (lv_at hl 3 rfl) ?_
        refine lv_icmp_le (tgt := 54) hx hb zd_Mo_rootsLead_48 (by decide) (fun g4 => ?_) (fun g4 => ?_)
        · rw [if_pos g4] at hf
          refine lv_iinc (v := (x3 + (1 : Int32))) (lv' := [(3, .int (x3 + (1 : Int32))), (4, .int r3), (0, .ref (q 0)), (1, .int x1), (2, .int x2)]) hx hb zd_Mo_rootsLead_54 hl (k := 4) rfl rfl (by decide) rfl (fun ls hl => ?_)
          refine lv_goto (tgt := 11) hx hb zd_Mo_rootsLead_57 (by decide) ?_
          exact ih x1 x2 (x3 + (1 : Int32)) _ _ _ X (lv_sub hl [2, 3, 4, 0] rfl) hf
        · rw [if_neg g4] at hf
          refine lv_iload hx hb zd_Mo_rootsLead_51 (lv_at hl 0 rfl) ?_
          refine lv_istore_n (lv' := [(2, .int r3), (4, .int r3), (0, .ref (q 0)), (1, .int x1), (3, .int x3)]) hx hb zd_Mo_rootsLead_53 rfl hl (by decide) rfl (fun ls hl => ?_)
          refine lv_iinc (v := (x3 + (1 : Int32))) (lv' := [(3, .int (x3 + (1 : Int32))), (2, .int r3), (4, .int r3), (0, .ref (q 0)), (1, .int x1)]) hx hb zd_Mo_rootsLead_54 hl (k := 4) rfl rfl (by decide) rfl (fun ls hl => ?_)
          refine lv_goto (tgt := 11) hx hb zd_Mo_rootsLead_57 (by decide) ?_
          exact ih x1 r3 (x3 + (1 : Int32)) _ _ _ X (lv_sub hl [3, 4, 1, 0] rfl) hf

set_option maxRecDepth 100000 in
set_option maxHeartbeats 4000000 in
theorem zk_Mo_rootsLead (l : Launch) (D : va_G) (q : Nat → Nat) (cI cZ : ClassId) {σ : St} {x1 : Int32} {out : Int32} (hf : zf_Mo_rootsLead σ x1 = some out) : zI l D vwCl (zz_tys cI cZ) (wM q cI cZ) zy_Mo_rootsLead (.code zy_Mo_rootsLead zc_Mo_rootsLead 5 (some .int) :: zz_WS) zm_Mo_rootsLead [.ref (q 0), .int x1] σ (out, σ) := by
  refine zI_of (by decide +kernel) (Nat.le_of_ble_eq_true rfl) (fun p e s m below meth c A ls hx hb hml hown hts hr hlocks X hl => ?_)
  have hl : lv_has ls 5 [(0, .ref (q 0)), (1, .int x1)] := hl
  unfold zf_Mo_rootsLead at hf
  refine lv_aload_n hx hb zd_Mo_rootsLead_0 rfl (lv_at hl 0 rfl) ?_
  refine lv_iconst (v := 0) hx hb zd_Mo_rootsLead_1 (by decide) ?_
  refine lv_bipush (v := 64) hx hb zd_Mo_rootsLead_2 (by decide) ?_
  refine lv_iload_n hx hb zd_Mo_rootsLead_4 rfl (lv_at hl 1 rfl) ?_
  obtain ⟨r1, h8, hf⟩ := Option.bind_eq_some_iff.mp hf
  refine zr_cvP (As := [.int (0 : Int32), .int (64 : Int32), .int x1]) (rest := []) (q0 := 0) (ci := 9) hx hb hml hown hts hl.1 X (zk_Mo_wordsLead l D q cI cZ h8) zkw_Mo_wordsLead zl_Mo_176 rfl rfl (Nat.le_of_ble_eq_true rfl) rfl rfl ⟨rfl, rfl⟩ ⟨Nat.le_of_ble_eq_true rfl, Nat.le_of_ble_eq_true rfl⟩ zd_Mo_rootsLead_5 (fun H locs X => ?_)
  refine lv_istore_n (lv' := [(2, .int r1), (0, .ref (q 0)), (1, .int x1)]) hx hb zd_Mo_rootsLead_8 rfl hl (by decide) rfl (fun ls hl => ?_)
  refine lv_iconst (v := 1) hx hb zd_Mo_rootsLead_9 (by decide) ?_
  refine lv_istore_n (lv' := [(3, .int (1 : Int32)), (2, .int r1), (0, .ref (q 0)), (1, .int x1)]) hx hb zd_Mo_rootsLead_10 rfl hl (by decide) rfl (fun ls hl => ?_)
  refine zw_Mo_rootsLead_L11 hx hb hml hown hts hr hlocks out σ _ (fun y_2 H locs ls X hl hf => ?_) 300 x1 r1 (1 : Int32) _ _ _ X (lv_sub hl [2, 3, 1, 0] rfl) hf
  refine lv_iload_n hx hb zd_Mo_rootsLead_60 rfl (lv_at hl 0 rfl) ?_
  exact zr_iretP hx hb hr hlocks X (Option.some.inj hf) zd_Mo_rootsLead_61

set_option maxRecDepth 100000 in
set_option maxHeartbeats 4000000 in
theorem zk_Mo_blockLeads (l : Launch) (D : va_G) (q : Nat → Nat) (cI cZ : ClassId) {σ : St} {x1 x2 : Int32} {out : Int32} (hf : zf_Mo_blockLeads σ x1 x2 = some out) : zI l D vwCl (zz_tys cI cZ) (wM q cI cZ) zy_Mo_blockLeads (.code zy_Mo_blockLeads zc_Mo_blockLeads 3 (some .int) :: zz_WS) zm_Mo_blockLeads [.ref (q 0), .int x1, .int x2] σ (out, σ) := by
  refine zI_of (by decide +kernel) (Nat.le_of_ble_eq_true rfl) (fun p e s m below meth c A ls hx hb hml hown hts hr hlocks X hl => ?_)
  have hl : lv_has ls 3 [(0, .ref (q 0)), (1, .int x1), (2, .int x2)] := hl
  unfold zf_Mo_blockLeads at hf
  refine lv_aload_n hx hb zd_Mo_blockLeads_0 rfl (lv_at hl 0 rfl) ?_
  refine lv_aload_n hx hb zd_Mo_blockLeads_1 rfl (lv_at hl 0 rfl) ?_
  refine zg_Mo_address hx hb hts hown X zd_Mo_blockLeads_2 ?_
  refine lv_iload_n hx hb zd_Mo_blockLeads_5 rfl (lv_at hl 1 rfl) ?_
  obtain ⟨hin, hf⟩ := zz_ck_some hf
  refine za_Mo_address hx hb X hin zd_Mo_blockLeads_6 ?_
  refine lv_aload_n hx hb zd_Mo_blockLeads_7 rfl (lv_at hl 0 rfl) ?_
  refine zg_Mo_address hx hb hts hown X zd_Mo_blockLeads_8 ?_
  refine lv_iload_n hx hb zd_Mo_blockLeads_11 rfl (lv_at hl 1 rfl) ?_
  obtain ⟨hin, hf⟩ := zz_ck_some hf
  refine za_Mo_address hx hb X hin zd_Mo_blockLeads_12 ?_
  refine lv_aload_n hx hb zd_Mo_blockLeads_13 rfl (lv_at hl 0 rfl) ?_
  refine zg_Mo_size hx hb hts hown X zd_Mo_blockLeads_14 ?_
  refine lv_iload_n hx hb zd_Mo_blockLeads_17 rfl (lv_at hl 1 rfl) ?_
  obtain ⟨hin, hf⟩ := zz_ck_some hf
  refine za_Mo_size hx hb X hin zd_Mo_blockLeads_18 ?_
  refine lv_iadd hx hb zd_Mo_blockLeads_19 ?_
  refine lv_iload_n hx hb zd_Mo_blockLeads_20 rfl (lv_at hl 2 rfl) ?_
  obtain ⟨r1, h2, hf⟩ := Option.bind_eq_some_iff.mp hf
  refine zr_cvP (As := [.int (σ 11 x1.toNatClampNeg), .int ((σ 11 x1.toNatClampNeg) + (σ 12 x1.toNatClampNeg)), .int x2]) (rest := []) (q0 := 0) (ci := 9) hx hb hml hown hts hl.1 X (zk_Mo_wordsLead l D q cI cZ h2) zkw_Mo_wordsLead zl_Mo_176 rfl rfl (Nat.le_of_ble_eq_true rfl) rfl rfl ⟨rfl, rfl⟩ ⟨Nat.le_of_ble_eq_true rfl, Nat.le_of_ble_eq_true rfl⟩ zd_Mo_blockLeads_21 (fun H locs X => ?_)
  exact zr_iretP hx hb hr hlocks X (Option.some.inj hf) zd_Mo_blockLeads_24

set_option maxRecDepth 100000 in
set_option maxHeartbeats 4000000 in
theorem zw_Mo_led_L3 {p : Program} {l : Launch} {e : Env} {s : State} {m : MethodId} {args : Array Value} {below : List Frame} {meth : Method} {c : Code} {D : va_G} {q : Nat → Nat} {cI cZ : ClassId} {A : Nat → Prop} (hx : p.tables.exec = Jvm.exec) (hb : c.code = zc_Mo_led) (hml : c.maxLocals = 5) (hown : s.vm.findClass zR_Mo = some m.cls) (hts : ∀ w ∈ zz_WS, w.before args s = true) (hr : meth.sig.returnType = (some .boolean)) (hlocks : meth.locks = false) (out : Int32) (σ : St) (kx : Option Int32) (hkx : ∀ (H : Heap) (locs : List Loc) (ls : Array Slot), zz_X D vwCl (zz_tys cI cZ) A s H locs ((wM q cI cZ) σ) → lv_has ls 5 [] → kx = some out → W p l e zm_Mo_led s m args below meth c H locs 0 0 (MQ below (zq_I D vwCl (zz_tys cI cZ) (wM q cI cZ) A (out, σ)) args s 0 0 A) (F0 m 52 ls [])) : ∀ (n : Nat) (x1 x2 x3 x4 : Int32) (H : Heap) (locs : List Loc) (ls : Array Slot), zz_X D vwCl (zz_tys cI cZ) A s H locs ((wM q cI cZ) σ) → lv_has ls 5 [(0, .ref (q 0)), (1, .int x1), (2, .int x2), (3, .int x3), (4, .int x4)] → zf_Mo_led_L3 σ kx n x1 x2 x3 x4 = some out → W p l e zm_Mo_led s m args below meth c H locs 0 0 (MQ below (zq_I D vwCl (zz_tys cI cZ) (wM q cI cZ) A (out, σ)) args s 0 0 A) (F0 m 3 ls []) := by
  intro n
  induction n with
  | zero =>
    intro x1 x2 x3 x4 H locs ls X hl hf
    exact absurd hf (by simp [zf_Mo_led_L3])
  | succ n ih =>
    intro x1 x2 x3 x4 H locs ls X hl hf
    rw [zf_Mo_led_L3] at hf
    refine lv_iload hx hb zd_Mo_led_3 (lv_at hl 4 rfl) ?_
    refine lv_aload_n hx hb zd_Mo_led_5 rfl (lv_at hl 0 rfl) ?_
    refine zg_Mo_blocks hx hb hts hown X zd_Mo_led_6 ?_
    refine lv_icmp_ge (tgt := 52) hx hb zd_Mo_led_9 (by decide) (fun g6 => ?_) (fun g6 => ?_)
    · rw [if_pos g6] at hf
      exact hkx _ _ _ X (lv_sub hl [] rfl) hf
    · rw [if_neg g6] at hf
      refine lv_aload_n hx hb zd_Mo_led_12 rfl (lv_at hl 0 rfl) ?_
      refine zg_Mo_rests hx hb hts hown X zd_Mo_led_13 ?_
      refine lv_iload hx hb zd_Mo_led_16 (lv_at hl 4 rfl) ?_
      obtain ⟨hin, hf⟩ := zz_ck_some hf
      refine za_Mo_rests hx hb X hin zd_Mo_led_18 ?_
      refine lv_if_ne (tgt := 46) hx hb zd_Mo_led_19 (by decide) (fun g5 => ?_) (fun g5 => ?_)
      · rw [if_neg g5] at hf
        refine lv_iinc (v := (x4 + (1 : Int32))) (lv' := [(4, .int (x4 + (1 : Int32))), (0, .ref (q 0)), (1, .int x1), (2, .int x2), (3, .int x3)]) hx hb zd_Mo_led_46 hl (k := 4) rfl rfl (by decide) rfl (fun ls hl => ?_)
        refine lv_goto (tgt := 3) hx hb zd_Mo_led_49 (by decide) ?_
        exact ih x1 x2 x3 (x4 + (1 : Int32)) _ _ _ X (lv_sub hl [1, 2, 3, 4, 0] rfl) hf
      · rw [if_pos g5] at hf
        refine lv_aload_n hx hb zd_Mo_led_22 rfl (lv_at hl 0 rfl) ?_
        refine zg_Mo_seen hx hb hts hown X zd_Mo_led_23 ?_
        refine lv_iload hx hb zd_Mo_led_26 (lv_at hl 4 rfl) ?_
        obtain ⟨hin, hf⟩ := zz_ck_some hf
        refine za_Mo_seen hx hb X hin zd_Mo_led_28 ?_
        refine lv_iload_n hx hb zd_Mo_led_29 rfl (lv_at hl 2 rfl) ?_
        refine lv_icmp_ne (tgt := 46) hx hb zd_Mo_led_30 (by decide) (fun g4 => ?_) (fun g4 => ?_)
        · rw [if_neg g4] at hf
          refine lv_iinc (v := (x4 + (1 : Int32))) (lv' := [(4, .int (x4 + (1 : Int32))), (0, .ref (q 0)), (1, .int x1), (2, .int x2), (3, .int x3)]) hx hb zd_Mo_led_46 hl (k := 4) rfl rfl (by decide) rfl (fun ls hl => ?_)
          refine lv_goto (tgt := 3) hx hb zd_Mo_led_49 (by decide) ?_
          exact ih x1 x2 x3 (x4 + (1 : Int32)) _ _ _ X (lv_sub hl [1, 2, 3, 4, 0] rfl) hf
        · rw [if_pos g4] at hf
          refine lv_aload_n hx hb zd_Mo_led_33 rfl (lv_at hl 0 rfl) ?_
          refine lv_iload hx hb zd_Mo_led_34 (lv_at hl 4 rfl) ?_
          refine lv_iload_n hx hb zd_Mo_led_36 rfl (lv_at hl 1 rfl) ?_
          obtain ⟨r1, h3, hf⟩ := Option.bind_eq_some_iff.mp hf
          refine zr_cvP (As := [.int x4, .int x1]) (rest := []) (q0 := 0) (ci := 9) hx hb hml hown hts hl.1 X (zk_Mo_blockLeads l D q cI cZ h3) zkw_Mo_blockLeads zl_Mo_180 rfl rfl (Nat.le_of_ble_eq_true rfl) rfl rfl ⟨rfl, rfl⟩ ⟨Nat.le_of_ble_eq_true rfl, Nat.le_of_ble_eq_true rfl⟩ zd_Mo_led_37 (fun H locs X => ?_)
          refine lv_iload_n hx hb zd_Mo_led_40 rfl (lv_at hl 3 rfl) ?_
          refine lv_icmp_lt (tgt := 46) hx hb zd_Mo_led_41 (by decide) (fun g2 => ?_) (fun g2 => ?_)
          · rw [if_pos g2] at hf
            refine lv_iinc (v := (x4 + (1 : Int32))) (lv' := [(4, .int (x4 + (1 : Int32))), (0, .ref (q 0)), (1, .int x1), (2, .int x2), (3, .int x3)]) hx hb zd_Mo_led_46 hl (k := 4) rfl rfl (by decide) rfl (fun ls hl => ?_)
            refine lv_goto (tgt := 3) hx hb zd_Mo_led_49 (by decide) ?_
            exact ih x1 x2 x3 (x4 + (1 : Int32)) _ _ _ X (lv_sub hl [1, 2, 3, 4, 0] rfl) hf
          · rw [if_neg g2] at hf
            refine lv_iconst (v := 1) hx hb zd_Mo_led_44 (by decide) ?_
            obtain ⟨hz, hf⟩ := zz_kz_some hf
            exact zr_zretP hx hb hr hlocks X hz (Option.some.inj hf) zd_Mo_led_45

set_option maxRecDepth 100000 in
set_option maxHeartbeats 4000000 in
theorem zk_Mo_led (l : Launch) (D : va_G) (q : Nat → Nat) (cI cZ : ClassId) {σ : St} {x1 x2 x3 : Int32} {out : Int32} (hf : zf_Mo_led σ x1 x2 x3 = some out) : zI l D vwCl (zz_tys cI cZ) (wM q cI cZ) zy_Mo_led (.code zy_Mo_led zc_Mo_led 5 (some .boolean) :: zz_WS) zm_Mo_led [.ref (q 0), .int x1, .int x2, .int x3] σ (out, σ) := by
  refine zI_of (by decide +kernel) (Nat.le_of_ble_eq_true rfl) (fun p e s m below meth c A ls hx hb hml hown hts hr hlocks X hl => ?_)
  have hl : lv_has ls 5 [(0, .ref (q 0)), (1, .int x1), (2, .int x2), (3, .int x3)] := hl
  unfold zf_Mo_led at hf
  refine lv_iconst (v := 0) hx hb zd_Mo_led_0 (by decide) ?_
  refine lv_istore (lv' := [(4, .int (0 : Int32)), (0, .ref (q 0)), (1, .int x1), (2, .int x2), (3, .int x3)]) hx hb zd_Mo_led_1 hl (by decide) rfl (fun ls hl => ?_)
  refine zw_Mo_led_L3 hx hb hml hown hts hr hlocks out σ _ (fun  H locs ls X hl hf => ?_) 300 x1 x2 x3 (0 : Int32) _ _ _ X (lv_sub hl [1, 2, 3, 4, 0] rfl) hf
  refine lv_iconst (v := 0) hx hb zd_Mo_led_52 (by decide) ?_
  obtain ⟨hz, hf⟩ := zz_kz_some hf
  exact zr_zretP hx hb hr hlocks X hz (Option.some.inj hf) zd_Mo_led_53

set_option maxRecDepth 100000 in
set_option maxHeartbeats 4000000 in
theorem zw_Mo_drag_L73 {p : Program} {l : Launch} {e : Env} {s : State} {m : MethodId} {args : Array Value} {below : List Frame} {meth : Method} {c : Code} {D : va_G} {q : Nat → Nat} {cI cZ : ClassId} {A : Nat → Prop} (hx : p.tables.exec = Jvm.exec) (hb : c.code = zc_Mo_drag) (hml : c.maxLocals = 7) (hown : s.vm.findClass zR_Mo = some m.cls) (hts : ∀ w ∈ zz_WS, w.before args s = true) (hr : meth.sig.returnType = none) (hlocks : meth.locks = false) (out : St) (kx : St → Int32 → Int32 → Int32 → Int32 → Option St) (hkx : ∀ (σ : St) (x2 x3 x4 x5 : Int32) (H : Heap) (locs : List Loc) (ls : Array Slot), zz_X D vwCl (zz_tys cI cZ) A s H locs ((wM q cI cZ) σ) → lv_has ls 7 [(0, .ref (q 0)), (2, .int x2), (3, .int x3), (4, .int x4), (5, .int x5)] → kx σ x2 x3 x4 x5 = some out → W p l e zm_Mo_drag s m args below meth c H locs 0 0 (MQ below (zq_V D vwCl (zz_tys cI cZ) (wM q cI cZ) A out) args s 0 0 A) (F0 m 120 ls [])) : ∀ (n : Nat) (σ : St) (x2 x3 x4 x5 x6 : Int32) (H : Heap) (locs : List Loc) (ls : Array Slot), zz_X D vwCl (zz_tys cI cZ) A s H locs ((wM q cI cZ) σ) → lv_has ls 7 [(0, .ref (q 0)), (2, .int x2), (3, .int x3), (4, .int x4), (5, .int x5), (6, .int x6)] → zf_Mo_drag_L73 kx n σ x2 x3 x4 x5 x6 = some out → W p l e zm_Mo_drag s m args below meth c H locs 0 0 (MQ below (zq_V D vwCl (zz_tys cI cZ) (wM q cI cZ) A out) args s 0 0 A) (F0 m 73 ls []) := by
  intro n
  induction n with
  | zero =>
    intro σ x2 x3 x4 x5 x6 H locs ls X hl hf
    exact absurd hf (by simp [zf_Mo_drag_L73])
  | succ n ih =>
    intro σ x2 x3 x4 x5 x6 H locs ls X hl hf
    rw [zf_Mo_drag_L73] at hf
    refine lv_iload hx hb zd_Mo_drag_73 (lv_at hl 5 rfl) ?_
    refine lv_aload_n hx hb zd_Mo_drag_75 rfl (lv_at hl 0 rfl) ?_
    refine zg_Mo_blocks hx hb hts hown X zd_Mo_drag_76 ?_
    refine lv_icmp_ge (tgt := 120) hx hb zd_Mo_drag_79 (by decide) (fun g6 => ?_) (fun g6 => ?_)
    · rw [if_pos g6] at hf
      exact hkx σ x2 x3 x4 x5 _ _ _ X (lv_sub hl [0, 1, 2, 3, 4] rfl) hf
    · rw [if_neg g6] at hf
      refine lv_iload hx hb zd_Mo_drag_82 (lv_at hl 4 rfl) ?_
      refine lv_if_ne (tgt := 120) hx hb zd_Mo_drag_84 (by decide) (fun g5 => ?_) (fun g5 => ?_)
      · rw [if_neg g5] at hf
        exact hkx σ x2 x3 x4 x5 _ _ _ X (lv_sub hl [0, 1, 2, 3, 4] rfl) hf
      · rw [if_pos g5] at hf
        refine lv_iload_n hx hb zd_Mo_drag_87 rfl (lv_at hl 1 rfl) ?_
        refine lv_iload hx hb zd_Mo_drag_88 (lv_at hl 5 rfl) ?_
        refine lv_ishr hx hb zd_Mo_drag_90 ?_
        refine lv_iconst (v := 1) hx hb zd_Mo_drag_91 (by decide) ?_
        refine lv_iand hx hb zd_Mo_drag_92 ?_
        refine lv_if_eq (tgt := 111) hx hb zd_Mo_drag_93 (by decide) (fun g4 => ?_) (fun g4 => ?_)
        · rw [if_pos g4] at hf
          refine lv_iconst (v := 0) hx hb zd_Mo_drag_111 (by decide) ?_
          refine lv_istore (lv' := [(5, .int (0 : Int32)), (0, .ref (q 0)), (2, .int x2), (3, .int x3), (4, .int x4), (6, .int x6)]) hx hb zd_Mo_drag_112 hl (by decide) rfl (fun ls hl => ?_)
          refine lv_iinc (v := (x6 + (1 : Int32))) (lv' := [(6, .int (x6 + (1 : Int32))), (5, .int (0 : Int32)), (0, .ref (q 0)), (2, .int x2), (3, .int x3), (4, .int x4)]) hx hb zd_Mo_drag_114 hl (k := 5) rfl rfl (by decide) rfl (fun ls hl => ?_)
          refine lv_goto (tgt := 73) hx hb zd_Mo_drag_117 (by decide) ?_
          exact ih σ x2 x3 x4 (0 : Int32) (x6 + (1 : Int32)) _ _ _ X (lv_sub hl [2, 3, 4, 5, 1, 0] rfl) hf
        · rw [if_neg g4] at hf
          refine lv_aload_n hx hb zd_Mo_drag_96 rfl (lv_at hl 0 rfl) ?_
          refine lv_iload hx hb zd_Mo_drag_97 (lv_at hl 5 rfl) ?_
          refine lv_iload hx hb zd_Mo_drag_99 (lv_at hl 3 rfl) ?_
          obtain ⟨r1, h3, hf⟩ := Option.bind_eq_some_iff.mp hf
          refine zr_cvP (As := [.int x6, .int x4]) (rest := []) (q0 := 0) (ci := 9) hx hb hml hown hts hl.1 X (zk_Mo_blockLeads l D q cI cZ h3) zkw_Mo_blockLeads zl_Mo_180 rfl rfl (Nat.le_of_ble_eq_true rfl) rfl rfl ⟨rfl, rfl⟩ ⟨Nat.le_of_ble_eq_true rfl, Nat.le_of_ble_eq_true rfl⟩ zd_Mo_drag_101 (fun H locs X => ?_)
          refine lv_if_le (tgt := 111) hx hb zd_Mo_drag_104 (by decide) (fun g2 => ?_) (fun g2 => ?_)
          · rw [if_pos g2] at hf
            refine lv_iconst (v := 0) hx hb zd_Mo_drag_111 (by decide) ?_
            refine lv_istore (lv' := [(5, .int (0 : Int32)), (0, .ref (q 0)), (2, .int x2), (3, .int x3), (4, .int x4), (6, .int x6)]) hx hb zd_Mo_drag_112 hl (by decide) rfl (fun ls hl => ?_)
            refine lv_iinc (v := (x6 + (1 : Int32))) (lv' := [(6, .int (x6 + (1 : Int32))), (5, .int (0 : Int32)), (0, .ref (q 0)), (2, .int x2), (3, .int x3), (4, .int x4)]) hx hb zd_Mo_drag_114 hl (k := 5) rfl rfl (by decide) rfl (fun ls hl => ?_)
            refine lv_goto (tgt := 73) hx hb zd_Mo_drag_117 (by decide) ?_
            exact ih σ x2 x3 x4 (0 : Int32) (x6 + (1 : Int32)) _ _ _ X (lv_sub hl [2, 3, 4, 5, 1, 0] rfl) hf
          · rw [if_neg g2] at hf
            refine lv_iconst (v := 1) hx hb zd_Mo_drag_107 (by decide) ?_
            refine lv_goto (tgt := 112) hx hb zd_Mo_drag_108 (by decide) ?_
            refine lv_istore (lv' := [(5, .int (1 : Int32)), (0, .ref (q 0)), (2, .int x2), (3, .int x3), (4, .int x4), (6, .int x6)]) hx hb zd_Mo_drag_112 hl (by decide) rfl (fun ls hl => ?_)
            refine lv_iinc (v := (x6 + (1 : Int32))) (lv' := [(6, .int (x6 + (1 : Int32))), (5, .int (1 : Int32)), (0, .ref (q 0)), (2, .int x2), (3, .int x3), (4, .int x4)]) hx hb zd_Mo_drag_114 hl (k := 5) rfl rfl (by decide) rfl (fun ls hl => ?_)
            refine lv_goto (tgt := 73) hx hb zd_Mo_drag_117 (by decide) ?_
            exact ih σ x2 x3 x4 (1 : Int32) (x6 + (1 : Int32)) _ _ _ X (lv_sub hl [2, 3, 4, 5, 1, 0] rfl) hf

set_option maxRecDepth 100000 in
set_option maxHeartbeats 4000000 in
theorem zw_Mo_drag_L15 {p : Program} {l : Launch} {e : Env} {s : State} {m : MethodId} {args : Array Value} {below : List Frame} {meth : Method} {c : Code} {D : va_G} {q : Nat → Nat} {cI cZ : ClassId} {A : Nat → Prop} (hx : p.tables.exec = Jvm.exec) (hb : c.code = zc_Mo_drag) (hml : c.maxLocals = 7) (hown : s.vm.findClass zR_Mo = some m.cls) (hts : ∀ w ∈ zz_WS, w.before args s = true) (hr : meth.sig.returnType = none) (hlocks : meth.locks = false) (out : St) (kx : St → Int32 → Int32 → Option St) (hkx : ∀ (σ : St) (x2 x3 : Int32) (H : Heap) (locs : List Loc) (ls : Array Slot), zz_X D vwCl (zz_tys cI cZ) A s H locs ((wM q cI cZ) σ) → lv_has ls 7 [(0, .ref (q 0)), (2, .int x2), (3, .int x3)] → kx σ x2 x3 = some out → W p l e zm_Mo_drag s m args below meth c H locs 0 0 (MQ below (zq_V D vwCl (zz_tys cI cZ) (wM q cI cZ) A out) args s 0 0 A) (F0 m 148 ls [])) : ∀ (n : Nat) (σ : St) (x2 x3 x4 : Int32) (H : Heap) (locs : List Loc) (ls : Array Slot), zz_X D vwCl (zz_tys cI cZ) A s H locs ((wM q cI cZ) σ) → lv_has ls 7 [(0, .ref (q 0)), (2, .int x2), (3, .int x3), (4, .int x4)] → zf_Mo_drag_L15 kx n σ x2 x3 x4 = some out → W p l e zm_Mo_drag s m args below meth c H locs 0 0 (MQ below (zq_V D vwCl (zz_tys cI cZ) (wM q cI cZ) A out) args s 0 0 A) (F0 m 15 ls []) := by
  intro n
  induction n with
  | zero =>
    intro σ x2 x3 x4 H locs ls X hl hf
    exact absurd hf (by simp [zf_Mo_drag_L15])
  | succ n ih =>
    intro σ x2 x3 x4 H locs ls X hl hf
    rw [zf_Mo_drag_L15] at hf
    refine lv_iload hx hb zd_Mo_drag_15 (lv_at hl 3 rfl) ?_
    refine lv_aload_n hx hb zd_Mo_drag_17 rfl (lv_at hl 0 rfl) ?_
    refine zg_Mo_blocks hx hb hts hown X zd_Mo_drag_18 ?_
    refine lv_icmp_ge (tgt := 148) hx hb zd_Mo_drag_21 (by decide) (fun g15 => ?_) (fun g15 => ?_)
    · rw [if_pos g15] at hf
      exact hkx σ x2 x3 _ _ _ X (lv_sub hl [0, 1, 2] rfl) hf
    · rw [if_neg g15] at hf
      refine lv_iload_n hx hb zd_Mo_drag_24 rfl (lv_at hl 1 rfl) ?_
      refine lv_iload hx hb zd_Mo_drag_25 (lv_at hl 3 rfl) ?_
      refine lv_ishr hx hb zd_Mo_drag_27 ?_
      refine lv_iconst (v := 1) hx hb zd_Mo_drag_28 (by decide) ?_
      refine lv_iand hx hb zd_Mo_drag_29 ?_
      refine lv_if_ne (tgt := 142) hx hb zd_Mo_drag_30 (by decide) (fun g14 => ?_) (fun g14 => ?_)
      · rw [if_neg g14] at hf
        refine lv_iinc (v := (x4 + (1 : Int32))) (lv' := [(4, .int (x4 + (1 : Int32))), (0, .ref (q 0)), (2, .int x2), (3, .int x3)]) hx hb zd_Mo_drag_142 hl (k := 3) rfl rfl (by decide) rfl (fun ls hl => ?_)
        refine lv_goto (tgt := 15) hx hb zd_Mo_drag_145 (by decide) ?_
        exact ih σ x2 x3 (x4 + (1 : Int32)) _ _ _ X (lv_sub hl [1, 2, 3, 0] rfl) hf
      · rw [if_pos g14] at hf
        refine lv_aload_n hx hb zd_Mo_drag_33 rfl (lv_at hl 0 rfl) ?_
        refine zg_Mo_rests hx hb hts hown X zd_Mo_drag_34 ?_
        refine lv_iload hx hb zd_Mo_drag_37 (lv_at hl 3 rfl) ?_
        obtain ⟨hin, hf⟩ := zz_ck_some hf
        refine za_Mo_rests hx hb X hin zd_Mo_drag_39 ?_
        refine lv_if_gt (tgt := 142) hx hb zd_Mo_drag_40 (by decide) (fun g13 => ?_) (fun g13 => ?_)
        · rw [if_pos g13] at hf
          refine lv_iinc (v := (x4 + (1 : Int32))) (lv' := [(4, .int (x4 + (1 : Int32))), (0, .ref (q 0)), (2, .int x2), (3, .int x3)]) hx hb zd_Mo_drag_142 hl (k := 3) rfl rfl (by decide) rfl (fun ls hl => ?_)
          refine lv_goto (tgt := 15) hx hb zd_Mo_drag_145 (by decide) ?_
          exact ih σ x2 x3 (x4 + (1 : Int32)) _ _ _ X (lv_sub hl [1, 2, 3, 0] rfl) hf
        · rw [if_neg g13] at hf
          refine lv_aload_n hx hb zd_Mo_drag_43 rfl (lv_at hl 0 rfl) ?_
          refine zg_Mo_seen hx hb hts hown X zd_Mo_drag_44 ?_
          refine lv_iload hx hb zd_Mo_drag_47 (lv_at hl 3 rfl) ?_
          obtain ⟨hin, hf⟩ := zz_ck_some hf
          refine za_Mo_seen hx hb X hin zd_Mo_drag_49 ?_
          refine lv_if_eq (tgt := 67) hx hb zd_Mo_drag_50 (by decide) (fun g12 => ?_) (fun g12 => ?_)
          · rw [if_pos g12] at hf
            refine lv_iconst (v := 0) hx hb zd_Mo_drag_67 (by decide) ?_
            refine lv_istore (lv' := [(5, .int (0 : Int32)), (0, .ref (q 0)), (2, .int x2), (3, .int x3), (4, .int x4)]) hx hb zd_Mo_drag_68 hl (by decide) rfl (fun ls hl => ?_)
            refine lv_iconst (v := 0) hx hb zd_Mo_drag_70 (by decide) ?_
            refine lv_istore (lv' := [(6, .int (0 : Int32)), (5, .int (0 : Int32)), (0, .ref (q 0)), (2, .int x2), (3, .int x3), (4, .int x4)]) hx hb zd_Mo_drag_71 hl (by decide) rfl (fun ls hl => ?_)
            refine zw_Mo_drag_L73 hx hb hml hown hts hr hlocks out _ (fun s7 s7_2 s7_3 s7_4 s7_5 H locs ls X hl hf => ?_) 300 σ x2 x3 x4 (0 : Int32) (0 : Int32) _ _ _ X (lv_sub hl [2, 3, 4, 5, 1, 0] rfl) hf
            refine lv_iload hx hb zd_Mo_drag_120 (lv_at hl 4 rfl) ?_
            refine lv_if_eq (tgt := 142) hx hb zd_Mo_drag_122 (by decide) (fun g8 => ?_) (fun g8 => ?_)
            · rw [if_pos g8] at hf
              refine lv_iinc (v := (s7_4 + (1 : Int32))) (lv' := [(4, .int (s7_4 + (1 : Int32))), (0, .ref (q 0)), (2, .int s7_2), (3, .int s7_3), (5, .int s7_5)]) hx hb zd_Mo_drag_142 hl (k := 3) rfl rfl (by decide) rfl (fun ls hl => ?_)
              refine lv_goto (tgt := 15) hx hb zd_Mo_drag_145 (by decide) ?_
              exact ih s7 s7_2 s7_3 (s7_4 + (1 : Int32)) _ _ _ X (lv_sub hl [1, 2, 3, 0] rfl) hf
            · rw [if_neg g8] at hf
              refine lv_iload_n hx hb zd_Mo_drag_125 rfl (lv_at hl 1 rfl) ?_
              refine lv_iconst (v := 1) hx hb zd_Mo_drag_126 (by decide) ?_
              refine lv_iload hx hb zd_Mo_drag_127 (lv_at hl 3 rfl) ?_
              refine lv_ishl hx hb zd_Mo_drag_129 ?_
              refine lv_ior hx hb zd_Mo_drag_130 ?_
              refine lv_istore_n (lv' := [(2, .int (s7_2 ||| ((1 : Int32) <<< (s7_4 &&& 31)))), (0, .ref (q 0)), (3, .int s7_3), (4, .int s7_4), (5, .int s7_5)]) hx hb zd_Mo_drag_131 rfl hl (by decide) rfl (fun ls hl => ?_)
              refine lv_aload_n hx hb zd_Mo_drag_132 rfl (lv_at hl 1 rfl) ?_
              refine zg_Mo_seen hx hb hts hown X zd_Mo_drag_133 ?_
              refine lv_iload hx hb zd_Mo_drag_136 (lv_at hl 3 rfl) ?_
              refine lv_iconst (v := 4) hx hb zd_Mo_drag_138 (by decide) ?_
              obtain ⟨hin, hf⟩ := zz_ck_some hf
              refine zs_Mo_seen hx hb X hin zd_Mo_drag_139 (fun H locs X => ?_)
              refine lv_iconst (v := 1) hx hb zd_Mo_drag_140 (by decide) ?_
              refine lv_istore_n (lv' := [(3, .int (1 : Int32)), (2, .int (s7_2 ||| ((1 : Int32) <<< (s7_4 &&& 31)))), (0, .ref (q 0)), (4, .int s7_4), (5, .int s7_5)]) hx hb zd_Mo_drag_141 rfl hl (by decide) rfl (fun ls hl => ?_)
              refine lv_iinc (v := (s7_4 + (1 : Int32))) (lv' := [(4, .int (s7_4 + (1 : Int32))), (3, .int (1 : Int32)), (2, .int (s7_2 ||| ((1 : Int32) <<< (s7_4 &&& 31)))), (0, .ref (q 0)), (5, .int s7_5)]) hx hb zd_Mo_drag_142 hl (k := 3) rfl rfl (by decide) rfl (fun ls hl => ?_)
              refine lv_goto (tgt := 15) hx hb zd_Mo_drag_145 (by decide) ?_
              exact ih (zz_put s7 14 s7_4.toNatClampNeg (4 : Int32)) (s7_2 ||| ((1 : Int32) <<< (s7_4 &&& 31))) (1 : Int32) (s7_4 + (1 : Int32)) _ _ _ X (lv_sub hl [3, 2, 1, 0] rfl) hf
          · rw [if_neg g12] at hf
            refine lv_aload_n hx hb zd_Mo_drag_53 rfl (lv_at hl 0 rfl) ?_
            refine zg_Mo_seen hx hb hts hown X zd_Mo_drag_54 ?_
            refine lv_iload hx hb zd_Mo_drag_57 (lv_at hl 3 rfl) ?_
            obtain ⟨hin, hf⟩ := zz_ck_some hf
            refine za_Mo_seen hx hb X hin zd_Mo_drag_59 ?_
            refine lv_iconst (v := 3) hx hb zd_Mo_drag_60 (by decide) ?_
            refine lv_icmp_eq (tgt := 67) hx hb zd_Mo_drag_61 (by decide) (fun g11 => ?_) (fun g11 => ?_)
            · rw [if_pos g11] at hf
              refine lv_iconst (v := 0) hx hb zd_Mo_drag_67 (by decide) ?_
              refine lv_istore (lv' := [(5, .int (0 : Int32)), (0, .ref (q 0)), (2, .int x2), (3, .int x3), (4, .int x4)]) hx hb zd_Mo_drag_68 hl (by decide) rfl (fun ls hl => ?_)
              refine lv_iconst (v := 0) hx hb zd_Mo_drag_70 (by decide) ?_
              refine lv_istore (lv' := [(6, .int (0 : Int32)), (5, .int (0 : Int32)), (0, .ref (q 0)), (2, .int x2), (3, .int x3), (4, .int x4)]) hx hb zd_Mo_drag_71 hl (by decide) rfl (fun ls hl => ?_)
              refine zw_Mo_drag_L73 hx hb hml hown hts hr hlocks out _ (fun s9 s9_2 s9_3 s9_4 s9_5 H locs ls X hl hf => ?_) 300 σ x2 x3 x4 (0 : Int32) (0 : Int32) _ _ _ X (lv_sub hl [2, 3, 4, 5, 1, 0] rfl) hf
              refine lv_iload hx hb zd_Mo_drag_120 (lv_at hl 4 rfl) ?_
              refine lv_if_eq (tgt := 142) hx hb zd_Mo_drag_122 (by decide) (fun g10 => ?_) (fun g10 => ?_)
              · rw [if_pos g10] at hf
                refine lv_iinc (v := (s9_4 + (1 : Int32))) (lv' := [(4, .int (s9_4 + (1 : Int32))), (0, .ref (q 0)), (2, .int s9_2), (3, .int s9_3), (5, .int s9_5)]) hx hb zd_Mo_drag_142 hl (k := 3) rfl rfl (by decide) rfl (fun ls hl => ?_)
                refine lv_goto (tgt := 15) hx hb zd_Mo_drag_145 (by decide) ?_
                exact ih s9 s9_2 s9_3 (s9_4 + (1 : Int32)) _ _ _ X (lv_sub hl [1, 2, 3, 0] rfl) hf
              · rw [if_neg g10] at hf
                refine lv_iload_n hx hb zd_Mo_drag_125 rfl (lv_at hl 1 rfl) ?_
                refine lv_iconst (v := 1) hx hb zd_Mo_drag_126 (by decide) ?_
                refine lv_iload hx hb zd_Mo_drag_127 (lv_at hl 3 rfl) ?_
                refine lv_ishl hx hb zd_Mo_drag_129 ?_
                refine lv_ior hx hb zd_Mo_drag_130 ?_
                refine lv_istore_n (lv' := [(2, .int (s9_2 ||| ((1 : Int32) <<< (s9_4 &&& 31)))), (0, .ref (q 0)), (3, .int s9_3), (4, .int s9_4), (5, .int s9_5)]) hx hb zd_Mo_drag_131 rfl hl (by decide) rfl (fun ls hl => ?_)
                refine lv_aload_n hx hb zd_Mo_drag_132 rfl (lv_at hl 1 rfl) ?_
                refine zg_Mo_seen hx hb hts hown X zd_Mo_drag_133 ?_
                refine lv_iload hx hb zd_Mo_drag_136 (lv_at hl 3 rfl) ?_
                refine lv_iconst (v := 4) hx hb zd_Mo_drag_138 (by decide) ?_
                obtain ⟨hin, hf⟩ := zz_ck_some hf
                refine zs_Mo_seen hx hb X hin zd_Mo_drag_139 (fun H locs X => ?_)
                refine lv_iconst (v := 1) hx hb zd_Mo_drag_140 (by decide) ?_
                refine lv_istore_n (lv' := [(3, .int (1 : Int32)), (2, .int (s9_2 ||| ((1 : Int32) <<< (s9_4 &&& 31)))), (0, .ref (q 0)), (4, .int s9_4), (5, .int s9_5)]) hx hb zd_Mo_drag_141 rfl hl (by decide) rfl (fun ls hl => ?_)
                refine lv_iinc (v := (s9_4 + (1 : Int32))) (lv' := [(4, .int (s9_4 + (1 : Int32))), (3, .int (1 : Int32)), (2, .int (s9_2 ||| ((1 : Int32) <<< (s9_4 &&& 31)))), (0, .ref (q 0)), (5, .int s9_5)]) hx hb zd_Mo_drag_142 hl (k := 3) rfl rfl (by decide) rfl (fun ls hl => ?_)
                refine lv_goto (tgt := 15) hx hb zd_Mo_drag_145 (by decide) ?_
                exact ih (zz_put s9 14 s9_4.toNatClampNeg (4 : Int32)) (s9_2 ||| ((1 : Int32) <<< (s9_4 &&& 31))) (1 : Int32) (s9_4 + (1 : Int32)) _ _ _ X (lv_sub hl [3, 2, 1, 0] rfl) hf
            · rw [if_neg g11] at hf
              refine lv_goto (tgt := 142) hx hb zd_Mo_drag_64 (by decide) ?_
              refine lv_iinc (v := (x4 + (1 : Int32))) (lv' := [(4, .int (x4 + (1 : Int32))), (0, .ref (q 0)), (2, .int x2), (3, .int x3)]) hx hb zd_Mo_drag_142 hl (k := 3) rfl rfl (by decide) rfl (fun ls hl => ?_)
              refine lv_goto (tgt := 15) hx hb zd_Mo_drag_145 (by decide) ?_
              exact ih σ x2 x3 (x4 + (1 : Int32)) _ _ _ X (lv_sub hl [1, 2, 3, 0] rfl) hf

set_option maxRecDepth 100000 in
set_option maxHeartbeats 4000000 in
theorem zw_Mo_drag_L6 {p : Program} {l : Launch} {e : Env} {s : State} {m : MethodId} {args : Array Value} {below : List Frame} {meth : Method} {c : Code} {D : va_G} {q : Nat → Nat} {cI cZ : ClassId} {A : Nat → Prop} (hx : p.tables.exec = Jvm.exec) (hb : c.code = zc_Mo_drag) (hml : c.maxLocals = 7) (hown : s.vm.findClass zR_Mo = some m.cls) (hts : ∀ w ∈ zz_WS, w.before args s = true) (hr : meth.sig.returnType = none) (hlocks : meth.locks = false) (out : St) (kx : St → Option St) (hkx : ∀ (σ : St) (H : Heap) (locs : List Loc) (ls : Array Slot), zz_X D vwCl (zz_tys cI cZ) A s H locs ((wM q cI cZ) σ) → lv_has ls 7 [] → kx σ = some out → W p l e zm_Mo_drag s m args below meth c H locs 0 0 (MQ below (zq_V D vwCl (zz_tys cI cZ) (wM q cI cZ) A out) args s 0 0 A) (F0 m 151 ls [])) : ∀ (n : Nat) (σ : St) (x2 x3 : Int32) (H : Heap) (locs : List Loc) (ls : Array Slot), zz_X D vwCl (zz_tys cI cZ) A s H locs ((wM q cI cZ) σ) → lv_has ls 7 [(0, .ref (q 0)), (2, .int x2), (3, .int x3)] → zf_Mo_drag_L6 kx n σ x2 x3 = some out → W p l e zm_Mo_drag s m args below meth c H locs 0 0 (MQ below (zq_V D vwCl (zz_tys cI cZ) (wM q cI cZ) A out) args s 0 0 A) (F0 m 6 ls []) := by
  intro n
  induction n with
  | zero =>
    intro σ x2 x3 H locs ls X hl hf
    exact absurd hf (by simp [zf_Mo_drag_L6])
  | succ n ih =>
    intro σ x2 x3 H locs ls X hl hf
    rw [zf_Mo_drag_L6] at hf
    refine lv_iload_n hx hb zd_Mo_drag_6 rfl (lv_at hl 2 rfl) ?_
    refine lv_if_eq (tgt := 151) hx hb zd_Mo_drag_7 (by decide) (fun g17 => ?_) (fun g17 => ?_)
    · rw [if_pos g17] at hf
      exact hkx σ _ _ _ X (lv_sub hl [] rfl) hf
    · rw [if_neg g17] at hf
      refine lv_iconst (v := 0) hx hb zd_Mo_drag_10 (by decide) ?_
      refine lv_istore_n (lv' := [(3, .int (0 : Int32)), (0, .ref (q 0)), (2, .int x2)]) hx hb zd_Mo_drag_11 rfl hl (by decide) rfl (fun ls hl => ?_)
      refine lv_iconst (v := 0) hx hb zd_Mo_drag_12 (by decide) ?_
      refine lv_istore (lv' := [(4, .int (0 : Int32)), (3, .int (0 : Int32)), (0, .ref (q 0)), (2, .int x2)]) hx hb zd_Mo_drag_13 hl (by decide) rfl (fun ls hl => ?_)
      refine zw_Mo_drag_L15 hx hb hml hown hts hr hlocks out _ (fun s16 s16_2 s16_3 H locs ls X hl hf => ?_) 300 σ x2 (0 : Int32) (0 : Int32) _ _ _ X (lv_sub hl [2, 3, 1, 0] rfl) hf
      refine lv_goto (tgt := 6) hx hb zd_Mo_drag_148 (by decide) ?_
      exact ih s16 s16_2 s16_3 _ _ _ X hl hf

set_option maxRecDepth 100000 in
set_option maxHeartbeats 4000000 in
theorem zk_Mo_drag (l : Launch) (D : va_G) (q : Nat → Nat) (cI cZ : ClassId) {σ : St} {x1 : Int32} {out : St} (hf : zf_Mo_drag σ x1 = some out) : zV l D vwCl (zz_tys cI cZ) (wM q cI cZ) zy_Mo_drag (.code zy_Mo_drag zc_Mo_drag 7 none :: zz_WS) zm_Mo_drag [.ref (q 0), .int x1] σ out := by
  refine zV_of (by decide +kernel) (Nat.le_of_ble_eq_true rfl) (fun p e s m below meth c A ls hx hb hml hown hts hr hlocks X hl => ?_)
  have hl : lv_has ls 7 [(0, .ref (q 0)), (1, .int x1)] := hl
  unfold zf_Mo_drag at hf
  refine lv_iconst (v := 1) hx hb zd_Mo_drag_0 (by decide) ?_
  refine lv_iload_n hx hb zd_Mo_drag_1 rfl (lv_at hl 1 rfl) ?_
  refine lv_ishl hx hb zd_Mo_drag_2 ?_
  refine lv_istore_n (lv' := [(2, .int ((1 : Int32) <<< (x1 &&& 31))), (0, .ref (q 0)), (1, .int x1)]) hx hb zd_Mo_drag_3 rfl hl (by decide) rfl (fun ls hl => ?_)
  refine lv_iconst (v := 1) hx hb zd_Mo_drag_4 (by decide) ?_
  refine lv_istore_n (lv' := [(3, .int (1 : Int32)), (2, .int ((1 : Int32) <<< (x1 &&& 31))), (0, .ref (q 0)), (1, .int x1)]) hx hb zd_Mo_drag_5 rfl hl (by decide) rfl (fun ls hl => ?_)
  refine zw_Mo_drag_L6 hx hb hml hown hts hr hlocks out _ (fun s18 H locs ls X hl hf => ?_) 300 σ ((1 : Int32) <<< (x1 &&& 31)) (1 : Int32) _ _ _ X (lv_sub hl [2, 1, 0] rfl) hf
  exact zr_vret hx hb hr hlocks X (Option.some.inj hf) zd_Mo_drag_151

set_option maxRecDepth 100000 in
set_option maxHeartbeats 4000000 in
theorem zw_Mo_scan_L2 {p : Program} {l : Launch} {e : Env} {s : State} {m : MethodId} {args : Array Value} {below : List Frame} {meth : Method} {c : Code} {D : va_G} {q : Nat → Nat} {cI cZ : ClassId} {A : Nat → Prop} (hx : p.tables.exec = Jvm.exec) (hb : c.code = zc_Mo_scan) (hml : c.maxLocals = 3) (hown : s.vm.findClass zR_Mo = some m.cls) (hts : ∀ w ∈ zz_WS, w.before args s = true) (hr : meth.sig.returnType = none) (hlocks : meth.locks = false) (out : St) (kx : St → Option St) (hkx : ∀ (σ : St) (H : Heap) (locs : List Loc) (ls : Array Slot), zz_X D vwCl (zz_tys cI cZ) A s H locs ((wM q cI cZ) σ) → lv_has ls 3 [(0, .ref (q 0))] → kx σ = some out → W p l e zm_Mo_scan s m args below meth c H locs 0 0 (MQ below (zq_V D vwCl (zz_tys cI cZ) (wM q cI cZ) A out) args s 0 0 A) (F0 m 23 ls [])) : ∀ (n : Nat) (σ : St) (x1 : Int32) (H : Heap) (locs : List Loc) (ls : Array Slot), zz_X D vwCl (zz_tys cI cZ) A s H locs ((wM q cI cZ) σ) → lv_has ls 3 [(0, .ref (q 0)), (1, .int x1)] → zf_Mo_scan_L2 kx n σ x1 = some out → W p l e zm_Mo_scan s m args below meth c H locs 0 0 (MQ below (zq_V D vwCl (zz_tys cI cZ) (wM q cI cZ) A out) args s 0 0 A) (F0 m 2 ls []) := by
  intro n
  induction n with
  | zero =>
    intro σ x1 H locs ls X hl hf
    exact absurd hf (by simp [zf_Mo_scan_L2])
  | succ n ih =>
    intro σ x1 H locs ls X hl hf
    rw [zf_Mo_scan_L2] at hf
    refine lv_iload_n hx hb zd_Mo_scan_2 rfl (lv_at hl 1 rfl) ?_
    refine lv_aload_n hx hb zd_Mo_scan_3 rfl (lv_at hl 0 rfl) ?_
    refine zg_Mo_blocks hx hb hts hown X zd_Mo_scan_4 ?_
    refine lv_icmp_ge (tgt := 23) hx hb zd_Mo_scan_7 (by decide) (fun g1 => ?_) (fun g1 => ?_)
    · rw [if_pos g1] at hf
      exact hkx σ _ _ _ X (lv_sub hl [0] rfl) hf
    · rw [if_neg g1] at hf
      refine lv_aload_n hx hb zd_Mo_scan_10 rfl (lv_at hl 0 rfl) ?_
      refine zg_Mo_seen hx hb hts hown X zd_Mo_scan_11 ?_
      refine lv_iload_n hx hb zd_Mo_scan_14 rfl (lv_at hl 1 rfl) ?_
      refine lv_iconst (v := 0) hx hb zd_Mo_scan_15 (by decide) ?_
      obtain ⟨hin, hf⟩ := zz_ck_some hf
      refine zs_Mo_seen hx hb X hin zd_Mo_scan_16 (fun H locs X => ?_)
      refine lv_iinc (v := (x1 + (1 : Int32))) (lv' := [(1, .int (x1 + (1 : Int32))), (0, .ref (q 0))]) hx hb zd_Mo_scan_17 hl (k := 1) rfl rfl (by decide) rfl (fun ls hl => ?_)
      refine lv_goto (tgt := 2) hx hb zd_Mo_scan_20 (by decide) ?_
      exact ih (zz_put σ 14 x1.toNatClampNeg (0 : Int32)) (x1 + (1 : Int32)) _ _ _ X (lv_sub hl [1, 0] rfl) hf

set_option maxRecDepth 100000 in
set_option maxHeartbeats 4000000 in
theorem zw_Mo_scan_L33 {p : Program} {l : Launch} {e : Env} {s : State} {m : MethodId} {args : Array Value} {below : List Frame} {meth : Method} {c : Code} {D : va_G} {q : Nat → Nat} {cI cZ : ClassId} {A : Nat → Prop} (hx : p.tables.exec = Jvm.exec) (hb : c.code = zc_Mo_scan) (hml : c.maxLocals = 3) (hown : s.vm.findClass zR_Mo = some m.cls) (hts : ∀ w ∈ zz_WS, w.before args s = true) (hr : meth.sig.returnType = none) (hlocks : meth.locks = false) (out : St) (kx : St → Int32 → Option St) (hkx : ∀ (σ : St) (x1 : Int32) (H : Heap) (locs : List Loc) (ls : Array Slot), zz_X D vwCl (zz_tys cI cZ) A s H locs ((wM q cI cZ) σ) → lv_has ls 3 [(0, .ref (q 0)), (1, .int x1)] → kx σ x1 = some out → W p l e zm_Mo_scan s m args below meth c H locs 0 0 (MQ below (zq_V D vwCl (zz_tys cI cZ) (wM q cI cZ) A out) args s 0 0 A) (F0 m 91 ls [])) : ∀ (n : Nat) (σ : St) (x1 x2 : Int32) (H : Heap) (locs : List Loc) (ls : Array Slot), zz_X D vwCl (zz_tys cI cZ) A s H locs ((wM q cI cZ) σ) → lv_has ls 3 [(0, .ref (q 0)), (1, .int x1), (2, .int x2)] → zf_Mo_scan_L33 kx n σ x1 x2 = some out → W p l e zm_Mo_scan s m args below meth c H locs 0 0 (MQ below (zq_V D vwCl (zz_tys cI cZ) (wM q cI cZ) A out) args s 0 0 A) (F0 m 33 ls []) := by
  intro n
  induction n with
  | zero =>
    intro σ x1 x2 H locs ls X hl hf
    exact absurd hf (by simp [zf_Mo_scan_L33])
  | succ n ih =>
    intro σ x1 x2 H locs ls X hl hf
    rw [zf_Mo_scan_L33] at hf
    refine lv_iload_n hx hb zd_Mo_scan_33 rfl (lv_at hl 2 rfl) ?_
    refine lv_aload_n hx hb zd_Mo_scan_34 rfl (lv_at hl 0 rfl) ?_
    refine zg_Mo_blocks hx hb hts hown X zd_Mo_scan_35 ?_
    refine lv_icmp_ge (tgt := 91) hx hb zd_Mo_scan_38 (by decide) (fun g11 => ?_) (fun g11 => ?_)
    · rw [if_pos g11] at hf
      exact hkx σ x1 _ _ _ X (lv_sub hl [0, 1] rfl) hf
    · rw [if_neg g11] at hf
      refine lv_aload_n hx hb zd_Mo_scan_41 rfl (lv_at hl 0 rfl) ?_
      refine zg_Mo_rests hx hb hts hown X zd_Mo_scan_42 ?_
      refine lv_iload_n hx hb zd_Mo_scan_45 rfl (lv_at hl 2 rfl) ?_
      obtain ⟨hin, hf⟩ := zz_ck_some hf
      refine za_Mo_rests hx hb X hin zd_Mo_scan_46 ?_
      refine lv_if_ne (tgt := 85) hx hb zd_Mo_scan_47 (by decide) (fun g10 => ?_) (fun g10 => ?_)
      · rw [if_neg g10] at hf
        refine lv_iinc (v := (x2 + (1 : Int32))) (lv' := [(2, .int (x2 + (1 : Int32))), (0, .ref (q 0)), (1, .int x1)]) hx hb zd_Mo_scan_85 hl (k := 2) rfl rfl (by decide) rfl (fun ls hl => ?_)
        refine lv_goto (tgt := 33) hx hb zd_Mo_scan_88 (by decide) ?_
        exact ih σ x1 (x2 + (1 : Int32)) _ _ _ X (lv_sub hl [1, 2, 0] rfl) hf
      · rw [if_pos g10] at hf
        refine lv_aload_n hx hb zd_Mo_scan_50 rfl (lv_at hl 0 rfl) ?_
        refine zg_Mo_seen hx hb hts hown X zd_Mo_scan_51 ?_
        refine lv_iload_n hx hb zd_Mo_scan_54 rfl (lv_at hl 2 rfl) ?_
        obtain ⟨hin, hf⟩ := zz_ck_some hf
        refine za_Mo_seen hx hb X hin zd_Mo_scan_55 ?_
        refine lv_if_ne (tgt := 85) hx hb zd_Mo_scan_56 (by decide) (fun g9 => ?_) (fun g9 => ?_)
        · rw [if_neg g9] at hf
          refine lv_iinc (v := (x2 + (1 : Int32))) (lv' := [(2, .int (x2 + (1 : Int32))), (0, .ref (q 0)), (1, .int x1)]) hx hb zd_Mo_scan_85 hl (k := 2) rfl rfl (by decide) rfl (fun ls hl => ?_)
          refine lv_goto (tgt := 33) hx hb zd_Mo_scan_88 (by decide) ?_
          exact ih σ x1 (x2 + (1 : Int32)) _ _ _ X (lv_sub hl [1, 2, 0] rfl) hf
        · rw [if_pos g9] at hf
          refine lv_aload_n hx hb zd_Mo_scan_59 rfl (lv_at hl 0 rfl) ?_
          refine lv_iload_n hx hb zd_Mo_scan_60 rfl (lv_at hl 2 rfl) ?_
          obtain ⟨r3, h8, hf⟩ := Option.bind_eq_some_iff.mp hf
          refine zr_cvP (As := [.int x2]) (rest := []) (q0 := 0) (ci := 9) hx hb hml hown hts hl.1 X (zk_Mo_rootsLead l D q cI cZ h8) zkw_Mo_rootsLead zl_Mo_183 rfl rfl (Nat.le_of_ble_eq_true rfl) rfl rfl ⟨rfl, rfl⟩ ⟨Nat.le_of_ble_eq_true rfl, Nat.le_of_ble_eq_true rfl⟩ zd_Mo_scan_61 (fun H locs X => ?_)
          refine lv_iconst (v := 2) hx hb zd_Mo_scan_64 (by decide) ?_
          refine lv_icmp_eq (tgt := 78) hx hb zd_Mo_scan_65 (by decide) (fun g7 => ?_) (fun g7 => ?_)
          · rw [if_pos g7] at hf
            refine lv_aload_n hx hb zd_Mo_scan_78 rfl (lv_at hl 0 rfl) ?_
            refine zg_Mo_seen hx hb hts hown X zd_Mo_scan_79 ?_
            refine lv_iload_n hx hb zd_Mo_scan_82 rfl (lv_at hl 2 rfl) ?_
            refine lv_iconst (v := 1) hx hb zd_Mo_scan_83 (by decide) ?_
            obtain ⟨hin, hf⟩ := zz_ck_some hf
            refine zs_Mo_seen hx hb X hin zd_Mo_scan_84 (fun H locs X => ?_)
            refine lv_iinc (v := (x2 + (1 : Int32))) (lv' := [(2, .int (x2 + (1 : Int32))), (0, .ref (q 0)), (1, .int x1)]) hx hb zd_Mo_scan_85 hl (k := 2) rfl rfl (by decide) rfl (fun ls hl => ?_)
            refine lv_goto (tgt := 33) hx hb zd_Mo_scan_88 (by decide) ?_
            exact ih (zz_put σ 14 x2.toNatClampNeg (1 : Int32)) x1 (x2 + (1 : Int32)) _ _ _ X (lv_sub hl [1, 2, 0] rfl) hf
          · rw [if_neg g7] at hf
            refine lv_aload_n hx hb zd_Mo_scan_68 rfl (lv_at hl 0 rfl) ?_
            refine lv_iload_n hx hb zd_Mo_scan_69 rfl (lv_at hl 2 rfl) ?_
            refine lv_iconst (v := 1) hx hb zd_Mo_scan_70 (by decide) ?_
            refine lv_iconst (v := 2) hx hb zd_Mo_scan_71 (by decide) ?_
            obtain ⟨r4, h6, hf⟩ := Option.bind_eq_some_iff.mp hf
            refine zr_cvP (As := [.int x2, .int (1 : Int32), .int (2 : Int32)]) (rest := []) (q0 := 0) (ci := 9) hx hb hml hown hts hl.1 X (zk_Mo_led l D q cI cZ h6) zkw_Mo_led zl_Mo_186 rfl rfl (Nat.le_of_ble_eq_true rfl) rfl rfl ⟨rfl, rfl⟩ ⟨Nat.le_of_ble_eq_true rfl, Nat.le_of_ble_eq_true rfl⟩ zd_Mo_scan_72 (fun H locs X => ?_)
            refine lv_if_eq (tgt := 85) hx hb zd_Mo_scan_75 (by decide) (fun g5 => ?_) (fun g5 => ?_)
            · rw [if_pos g5] at hf
              refine lv_iinc (v := (x2 + (1 : Int32))) (lv' := [(2, .int (x2 + (1 : Int32))), (0, .ref (q 0)), (1, .int x1)]) hx hb zd_Mo_scan_85 hl (k := 2) rfl rfl (by decide) rfl (fun ls hl => ?_)
              refine lv_goto (tgt := 33) hx hb zd_Mo_scan_88 (by decide) ?_
              exact ih σ x1 (x2 + (1 : Int32)) _ _ _ X (lv_sub hl [1, 2, 0] rfl) hf
            · rw [if_neg g5] at hf
              refine lv_aload_n hx hb zd_Mo_scan_78 rfl (lv_at hl 0 rfl) ?_
              refine zg_Mo_seen hx hb hts hown X zd_Mo_scan_79 ?_
              refine lv_iload_n hx hb zd_Mo_scan_82 rfl (lv_at hl 2 rfl) ?_
              refine lv_iconst (v := 1) hx hb zd_Mo_scan_83 (by decide) ?_
              obtain ⟨hin, hf⟩ := zz_ck_some hf
              refine zs_Mo_seen hx hb X hin zd_Mo_scan_84 (fun H locs X => ?_)
              refine lv_iinc (v := (x2 + (1 : Int32))) (lv' := [(2, .int (x2 + (1 : Int32))), (0, .ref (q 0)), (1, .int x1)]) hx hb zd_Mo_scan_85 hl (k := 2) rfl rfl (by decide) rfl (fun ls hl => ?_)
              refine lv_goto (tgt := 33) hx hb zd_Mo_scan_88 (by decide) ?_
              exact ih (zz_put σ 14 x2.toNatClampNeg (1 : Int32)) x1 (x2 + (1 : Int32)) _ _ _ X (lv_sub hl [1, 2, 0] rfl) hf

set_option maxRecDepth 100000 in
set_option maxHeartbeats 4000000 in
theorem zw_Mo_scan_L25 {p : Program} {l : Launch} {e : Env} {s : State} {m : MethodId} {args : Array Value} {below : List Frame} {meth : Method} {c : Code} {D : va_G} {q : Nat → Nat} {cI cZ : ClassId} {A : Nat → Prop} (hx : p.tables.exec = Jvm.exec) (hb : c.code = zc_Mo_scan) (hml : c.maxLocals = 3) (hown : s.vm.findClass zR_Mo = some m.cls) (hts : ∀ w ∈ zz_WS, w.before args s = true) (hr : meth.sig.returnType = none) (hlocks : meth.locks = false) (out : St) (kx : St → Option St) (hkx : ∀ (σ : St) (H : Heap) (locs : List Loc) (ls : Array Slot), zz_X D vwCl (zz_tys cI cZ) A s H locs ((wM q cI cZ) σ) → lv_has ls 3 [(0, .ref (q 0))] → kx σ = some out → W p l e zm_Mo_scan s m args below meth c H locs 0 0 (MQ below (zq_V D vwCl (zz_tys cI cZ) (wM q cI cZ) A out) args s 0 0 A) (F0 m 97 ls [])) : ∀ (n : Nat) (σ : St) (x1 : Int32) (H : Heap) (locs : List Loc) (ls : Array Slot), zz_X D vwCl (zz_tys cI cZ) A s H locs ((wM q cI cZ) σ) → lv_has ls 3 [(0, .ref (q 0)), (1, .int x1)] → zf_Mo_scan_L25 kx n σ x1 = some out → W p l e zm_Mo_scan s m args below meth c H locs 0 0 (MQ below (zq_V D vwCl (zz_tys cI cZ) (wM q cI cZ) A out) args s 0 0 A) (F0 m 25 ls []) := by
  intro n
  induction n with
  | zero =>
    intro σ x1 H locs ls X hl hf
    exact absurd hf (by simp [zf_Mo_scan_L25])
  | succ n ih =>
    intro σ x1 H locs ls X hl hf
    rw [zf_Mo_scan_L25] at hf
    refine lv_iload_n hx hb zd_Mo_scan_25 rfl (lv_at hl 1 rfl) ?_
    refine lv_bipush (v := 11) hx hb zd_Mo_scan_26 (by decide) ?_
    refine lv_icmp_ge (tgt := 97) hx hb zd_Mo_scan_28 (by decide) (fun g13 => ?_) (fun g13 => ?_)
    · rw [if_pos g13] at hf
      exact hkx σ _ _ _ X (lv_sub hl [0] rfl) hf
    · rw [if_neg g13] at hf
      refine lv_iconst (v := 0) hx hb zd_Mo_scan_31 (by decide) ?_
      refine lv_istore_n (lv' := [(2, .int (0 : Int32)), (0, .ref (q 0)), (1, .int x1)]) hx hb zd_Mo_scan_32 rfl hl (by decide) rfl (fun ls hl => ?_)
      refine zw_Mo_scan_L33 hx hb hml hown hts hr hlocks out _ (fun s12 s12_1 H locs ls X hl hf => ?_) 300 σ x1 (0 : Int32) _ _ _ X (lv_sub hl [1, 2, 0] rfl) hf
      refine lv_iinc (v := (s12_1 + (1 : Int32))) (lv' := [(1, .int (s12_1 + (1 : Int32))), (0, .ref (q 0))]) hx hb zd_Mo_scan_91 hl (k := 1) rfl rfl (by decide) rfl (fun ls hl => ?_)
      refine lv_goto (tgt := 25) hx hb zd_Mo_scan_94 (by decide) ?_
      exact ih s12 (s12_1 + (1 : Int32)) _ _ _ X (lv_sub hl [1, 0] rfl) hf

set_option maxRecDepth 100000 in
set_option maxHeartbeats 4000000 in
theorem zw_Mo_scan_L107 {p : Program} {l : Launch} {e : Env} {s : State} {m : MethodId} {args : Array Value} {below : List Frame} {meth : Method} {c : Code} {D : va_G} {q : Nat → Nat} {cI cZ : ClassId} {A : Nat → Prop} (hx : p.tables.exec = Jvm.exec) (hb : c.code = zc_Mo_scan) (hml : c.maxLocals = 3) (hown : s.vm.findClass zR_Mo = some m.cls) (hts : ∀ w ∈ zz_WS, w.before args s = true) (hr : meth.sig.returnType = none) (hlocks : meth.locks = false) (out : St) (kx : St → Int32 → Option St) (hkx : ∀ (σ : St) (x1 : Int32) (H : Heap) (locs : List Loc) (ls : Array Slot), zz_X D vwCl (zz_tys cI cZ) A s H locs ((wM q cI cZ) σ) → lv_has ls 3 [(0, .ref (q 0)), (1, .int x1)] → kx σ x1 = some out → W p l e zm_Mo_scan s m args below meth c H locs 0 0 (MQ below (zq_V D vwCl (zz_tys cI cZ) (wM q cI cZ) A out) args s 0 0 A) (F0 m 175 ls [])) : ∀ (n : Nat) (σ : St) (x1 x2 : Int32) (H : Heap) (locs : List Loc) (ls : Array Slot), zz_X D vwCl (zz_tys cI cZ) A s H locs ((wM q cI cZ) σ) → lv_has ls 3 [(0, .ref (q 0)), (1, .int x1), (2, .int x2)] → zf_Mo_scan_L107 kx n σ x1 x2 = some out → W p l e zm_Mo_scan s m args below meth c H locs 0 0 (MQ below (zq_V D vwCl (zz_tys cI cZ) (wM q cI cZ) A out) args s 0 0 A) (F0 m 107 ls []) := by
  intro n
  induction n with
  | zero =>
    intro σ x1 x2 H locs ls X hl hf
    exact absurd hf (by simp [zf_Mo_scan_L107])
  | succ n ih =>
    intro σ x1 x2 H locs ls X hl hf
    rw [zf_Mo_scan_L107] at hf
    refine lv_iload_n hx hb zd_Mo_scan_107 rfl (lv_at hl 2 rfl) ?_
    refine lv_aload_n hx hb zd_Mo_scan_108 rfl (lv_at hl 0 rfl) ?_
    refine zg_Mo_blocks hx hb hts hown X zd_Mo_scan_109 ?_
    refine lv_icmp_ge (tgt := 175) hx hb zd_Mo_scan_112 (by decide) (fun g26 => ?_) (fun g26 => ?_)
    · rw [if_pos g26] at hf
      exact hkx σ x1 _ _ _ X (lv_sub hl [0, 1] rfl) hf
    · rw [if_neg g26] at hf
      refine lv_aload_n hx hb zd_Mo_scan_115 rfl (lv_at hl 0 rfl) ?_
      refine zg_Mo_rests hx hb hts hown X zd_Mo_scan_116 ?_
      refine lv_iload_n hx hb zd_Mo_scan_119 rfl (lv_at hl 2 rfl) ?_
      obtain ⟨hin, hf⟩ := zz_ck_some hf
      refine za_Mo_rests hx hb X hin zd_Mo_scan_120 ?_
      refine lv_if_ne (tgt := 169) hx hb zd_Mo_scan_121 (by decide) (fun g25 => ?_) (fun g25 => ?_)
      · rw [if_neg g25] at hf
        refine lv_iinc (v := (x2 + (1 : Int32))) (lv' := [(2, .int (x2 + (1 : Int32))), (0, .ref (q 0)), (1, .int x1)]) hx hb zd_Mo_scan_169 hl (k := 2) rfl rfl (by decide) rfl (fun ls hl => ?_)
        refine lv_goto (tgt := 107) hx hb zd_Mo_scan_172 (by decide) ?_
        exact ih σ x1 (x2 + (1 : Int32)) _ _ _ X (lv_sub hl [1, 2, 0] rfl) hf
      · rw [if_pos g25] at hf
        refine lv_aload_n hx hb zd_Mo_scan_124 rfl (lv_at hl 0 rfl) ?_
        refine zg_Mo_seen hx hb hts hown X zd_Mo_scan_125 ?_
        refine lv_iload_n hx hb zd_Mo_scan_128 rfl (lv_at hl 2 rfl) ?_
        obtain ⟨hin, hf⟩ := zz_ck_some hf
        refine za_Mo_seen hx hb X hin zd_Mo_scan_129 ?_
        refine lv_if_ne (tgt := 169) hx hb zd_Mo_scan_130 (by decide) (fun g24 => ?_) (fun g24 => ?_)
        · rw [if_neg g24] at hf
          refine lv_iinc (v := (x2 + (1 : Int32))) (lv' := [(2, .int (x2 + (1 : Int32))), (0, .ref (q 0)), (1, .int x1)]) hx hb zd_Mo_scan_169 hl (k := 2) rfl rfl (by decide) rfl (fun ls hl => ?_)
          refine lv_goto (tgt := 107) hx hb zd_Mo_scan_172 (by decide) ?_
          exact ih σ x1 (x2 + (1 : Int32)) _ _ _ X (lv_sub hl [1, 2, 0] rfl) hf
        · rw [if_pos g24] at hf
          refine lv_aload_n hx hb zd_Mo_scan_133 rfl (lv_at hl 0 rfl) ?_
          refine lv_iload_n hx hb zd_Mo_scan_134 rfl (lv_at hl 2 rfl) ?_
          obtain ⟨r15, h23, hf⟩ := Option.bind_eq_some_iff.mp hf
          refine zr_cvP (As := [.int x2]) (rest := []) (q0 := 0) (ci := 9) hx hb hml hown hts hl.1 X (zk_Mo_rootsLead l D q cI cZ h23) zkw_Mo_rootsLead zl_Mo_183 rfl rfl (Nat.le_of_ble_eq_true rfl) rfl rfl ⟨rfl, rfl⟩ ⟨Nat.le_of_ble_eq_true rfl, Nat.le_of_ble_eq_true rfl⟩ zd_Mo_scan_135 (fun H locs X => ?_)
          refine lv_iconst (v := 1) hx hb zd_Mo_scan_138 (by decide) ?_
          refine lv_icmp_eq (tgt := 162) hx hb zd_Mo_scan_139 (by decide) (fun g22 => ?_) (fun g22 => ?_)
          · rw [if_pos g22] at hf
            refine lv_aload_n hx hb zd_Mo_scan_162 rfl (lv_at hl 0 rfl) ?_
            refine zg_Mo_seen hx hb hts hown X zd_Mo_scan_163 ?_
            refine lv_iload_n hx hb zd_Mo_scan_166 rfl (lv_at hl 2 rfl) ?_
            refine lv_iconst (v := 2) hx hb zd_Mo_scan_167 (by decide) ?_
            obtain ⟨hin, hf⟩ := zz_ck_some hf
            refine zs_Mo_seen hx hb X hin zd_Mo_scan_168 (fun H locs X => ?_)
            refine lv_iinc (v := (x2 + (1 : Int32))) (lv' := [(2, .int (x2 + (1 : Int32))), (0, .ref (q 0)), (1, .int x1)]) hx hb zd_Mo_scan_169 hl (k := 2) rfl rfl (by decide) rfl (fun ls hl => ?_)
            refine lv_goto (tgt := 107) hx hb zd_Mo_scan_172 (by decide) ?_
            exact ih (zz_put σ 14 x2.toNatClampNeg (2 : Int32)) x1 (x2 + (1 : Int32)) _ _ _ X (lv_sub hl [1, 2, 0] rfl) hf
          · rw [if_neg g22] at hf
            refine lv_aload_n hx hb zd_Mo_scan_142 rfl (lv_at hl 0 rfl) ?_
            refine lv_iload_n hx hb zd_Mo_scan_143 rfl (lv_at hl 2 rfl) ?_
            refine lv_iconst (v := 1) hx hb zd_Mo_scan_144 (by decide) ?_
            refine lv_iconst (v := 1) hx hb zd_Mo_scan_145 (by decide) ?_
            obtain ⟨r16, h21, hf⟩ := Option.bind_eq_some_iff.mp hf
            refine zr_cvP (As := [.int x2, .int (1 : Int32), .int (1 : Int32)]) (rest := []) (q0 := 0) (ci := 9) hx hb hml hown hts hl.1 X (zk_Mo_led l D q cI cZ h21) zkw_Mo_led zl_Mo_186 rfl rfl (Nat.le_of_ble_eq_true rfl) rfl rfl ⟨rfl, rfl⟩ ⟨Nat.le_of_ble_eq_true rfl, Nat.le_of_ble_eq_true rfl⟩ zd_Mo_scan_146 (fun H locs X => ?_)
            refine lv_if_ne (tgt := 162) hx hb zd_Mo_scan_149 (by decide) (fun g20 => ?_) (fun g20 => ?_)
            · rw [if_neg g20] at hf
              refine lv_aload_n hx hb zd_Mo_scan_162 rfl (lv_at hl 0 rfl) ?_
              refine zg_Mo_seen hx hb hts hown X zd_Mo_scan_163 ?_
              refine lv_iload_n hx hb zd_Mo_scan_166 rfl (lv_at hl 2 rfl) ?_
              refine lv_iconst (v := 2) hx hb zd_Mo_scan_167 (by decide) ?_
              obtain ⟨hin, hf⟩ := zz_ck_some hf
              refine zs_Mo_seen hx hb X hin zd_Mo_scan_168 (fun H locs X => ?_)
              refine lv_iinc (v := (x2 + (1 : Int32))) (lv' := [(2, .int (x2 + (1 : Int32))), (0, .ref (q 0)), (1, .int x1)]) hx hb zd_Mo_scan_169 hl (k := 2) rfl rfl (by decide) rfl (fun ls hl => ?_)
              refine lv_goto (tgt := 107) hx hb zd_Mo_scan_172 (by decide) ?_
              exact ih (zz_put σ 14 x2.toNatClampNeg (2 : Int32)) x1 (x2 + (1 : Int32)) _ _ _ X (lv_sub hl [1, 2, 0] rfl) hf
            · rw [if_pos g20] at hf
              refine lv_aload_n hx hb zd_Mo_scan_152 rfl (lv_at hl 0 rfl) ?_
              refine lv_iload_n hx hb zd_Mo_scan_153 rfl (lv_at hl 2 rfl) ?_
              refine lv_iconst (v := 2) hx hb zd_Mo_scan_154 (by decide) ?_
              refine lv_iconst (v := 1) hx hb zd_Mo_scan_155 (by decide) ?_
              obtain ⟨r17, h19, hf⟩ := Option.bind_eq_some_iff.mp hf
              refine zr_cvP (As := [.int x2, .int (2 : Int32), .int (1 : Int32)]) (rest := []) (q0 := 0) (ci := 9) hx hb hml hown hts hl.1 X (zk_Mo_led l D q cI cZ h19) zkw_Mo_led zl_Mo_186 rfl rfl (Nat.le_of_ble_eq_true rfl) rfl rfl ⟨rfl, rfl⟩ ⟨Nat.le_of_ble_eq_true rfl, Nat.le_of_ble_eq_true rfl⟩ zd_Mo_scan_156 (fun H locs X => ?_)
              refine lv_if_eq (tgt := 169) hx hb zd_Mo_scan_159 (by decide) (fun g18 => ?_) (fun g18 => ?_)
              · rw [if_pos g18] at hf
                refine lv_iinc (v := (x2 + (1 : Int32))) (lv' := [(2, .int (x2 + (1 : Int32))), (0, .ref (q 0)), (1, .int x1)]) hx hb zd_Mo_scan_169 hl (k := 2) rfl rfl (by decide) rfl (fun ls hl => ?_)
                refine lv_goto (tgt := 107) hx hb zd_Mo_scan_172 (by decide) ?_
                exact ih σ x1 (x2 + (1 : Int32)) _ _ _ X (lv_sub hl [1, 2, 0] rfl) hf
              · rw [if_neg g18] at hf
                refine lv_aload_n hx hb zd_Mo_scan_162 rfl (lv_at hl 0 rfl) ?_
                refine zg_Mo_seen hx hb hts hown X zd_Mo_scan_163 ?_
                refine lv_iload_n hx hb zd_Mo_scan_166 rfl (lv_at hl 2 rfl) ?_
                refine lv_iconst (v := 2) hx hb zd_Mo_scan_167 (by decide) ?_
                obtain ⟨hin, hf⟩ := zz_ck_some hf
                refine zs_Mo_seen hx hb X hin zd_Mo_scan_168 (fun H locs X => ?_)
                refine lv_iinc (v := (x2 + (1 : Int32))) (lv' := [(2, .int (x2 + (1 : Int32))), (0, .ref (q 0)), (1, .int x1)]) hx hb zd_Mo_scan_169 hl (k := 2) rfl rfl (by decide) rfl (fun ls hl => ?_)
                refine lv_goto (tgt := 107) hx hb zd_Mo_scan_172 (by decide) ?_
                exact ih (zz_put σ 14 x2.toNatClampNeg (2 : Int32)) x1 (x2 + (1 : Int32)) _ _ _ X (lv_sub hl [1, 2, 0] rfl) hf

set_option maxRecDepth 100000 in
set_option maxHeartbeats 4000000 in
theorem zw_Mo_scan_L99 {p : Program} {l : Launch} {e : Env} {s : State} {m : MethodId} {args : Array Value} {below : List Frame} {meth : Method} {c : Code} {D : va_G} {q : Nat → Nat} {cI cZ : ClassId} {A : Nat → Prop} (hx : p.tables.exec = Jvm.exec) (hb : c.code = zc_Mo_scan) (hml : c.maxLocals = 3) (hown : s.vm.findClass zR_Mo = some m.cls) (hts : ∀ w ∈ zz_WS, w.before args s = true) (hr : meth.sig.returnType = none) (hlocks : meth.locks = false) (out : St) (kx : St → Option St) (hkx : ∀ (σ : St) (H : Heap) (locs : List Loc) (ls : Array Slot), zz_X D vwCl (zz_tys cI cZ) A s H locs ((wM q cI cZ) σ) → lv_has ls 3 [(0, .ref (q 0))] → kx σ = some out → W p l e zm_Mo_scan s m args below meth c H locs 0 0 (MQ below (zq_V D vwCl (zz_tys cI cZ) (wM q cI cZ) A out) args s 0 0 A) (F0 m 181 ls [])) : ∀ (n : Nat) (σ : St) (x1 : Int32) (H : Heap) (locs : List Loc) (ls : Array Slot), zz_X D vwCl (zz_tys cI cZ) A s H locs ((wM q cI cZ) σ) → lv_has ls 3 [(0, .ref (q 0)), (1, .int x1)] → zf_Mo_scan_L99 kx n σ x1 = some out → W p l e zm_Mo_scan s m args below meth c H locs 0 0 (MQ below (zq_V D vwCl (zz_tys cI cZ) (wM q cI cZ) A out) args s 0 0 A) (F0 m 99 ls []) := by
  intro n
  induction n with
  | zero =>
    intro σ x1 H locs ls X hl hf
    exact absurd hf (by simp [zf_Mo_scan_L99])
  | succ n ih =>
    intro σ x1 H locs ls X hl hf
    rw [zf_Mo_scan_L99] at hf
    refine lv_iload_n hx hb zd_Mo_scan_99 rfl (lv_at hl 1 rfl) ?_
    refine lv_bipush (v := 11) hx hb zd_Mo_scan_100 (by decide) ?_
    refine lv_icmp_ge (tgt := 181) hx hb zd_Mo_scan_102 (by decide) (fun g28 => ?_) (fun g28 => ?_)
    · rw [if_pos g28] at hf
      exact hkx σ _ _ _ X (lv_sub hl [0] rfl) hf
    · rw [if_neg g28] at hf
      refine lv_iconst (v := 0) hx hb zd_Mo_scan_105 (by decide) ?_
      refine lv_istore_n (lv' := [(2, .int (0 : Int32)), (0, .ref (q 0)), (1, .int x1)]) hx hb zd_Mo_scan_106 rfl hl (by decide) rfl (fun ls hl => ?_)
      refine zw_Mo_scan_L107 hx hb hml hown hts hr hlocks out _ (fun s27 s27_1 H locs ls X hl hf => ?_) 300 σ x1 (0 : Int32) _ _ _ X (lv_sub hl [1, 2, 0] rfl) hf
      refine lv_iinc (v := (s27_1 + (1 : Int32))) (lv' := [(1, .int (s27_1 + (1 : Int32))), (0, .ref (q 0))]) hx hb zd_Mo_scan_175 hl (k := 1) rfl rfl (by decide) rfl (fun ls hl => ?_)
      refine lv_goto (tgt := 99) hx hb zd_Mo_scan_178 (by decide) ?_
      exact ih s27 (s27_1 + (1 : Int32)) _ _ _ X (lv_sub hl [1, 0] rfl) hf

set_option maxRecDepth 100000 in
set_option maxHeartbeats 4000000 in
theorem zw_Mo_scan_L183 {p : Program} {l : Launch} {e : Env} {s : State} {m : MethodId} {args : Array Value} {below : List Frame} {meth : Method} {c : Code} {D : va_G} {q : Nat → Nat} {cI cZ : ClassId} {A : Nat → Prop} (hx : p.tables.exec = Jvm.exec) (hb : c.code = zc_Mo_scan) (hml : c.maxLocals = 3) (hown : s.vm.findClass zR_Mo = some m.cls) (hts : ∀ w ∈ zz_WS, w.before args s = true) (hr : meth.sig.returnType = none) (hlocks : meth.locks = false) (out : St) (kx : St → Option St) (hkx : ∀ (σ : St) (H : Heap) (locs : List Loc) (ls : Array Slot), zz_X D vwCl (zz_tys cI cZ) A s H locs ((wM q cI cZ) σ) → lv_has ls 3 [] → kx σ = some out → W p l e zm_Mo_scan s m args below meth c H locs 0 0 (MQ below (zq_V D vwCl (zz_tys cI cZ) (wM q cI cZ) A out) args s 0 0 A) (F0 m 230 ls [])) : ∀ (n : Nat) (σ : St) (x1 : Int32) (H : Heap) (locs : List Loc) (ls : Array Slot), zz_X D vwCl (zz_tys cI cZ) A s H locs ((wM q cI cZ) σ) → lv_has ls 3 [(0, .ref (q 0)), (1, .int x1)] → zf_Mo_scan_L183 kx n σ x1 = some out → W p l e zm_Mo_scan s m args below meth c H locs 0 0 (MQ below (zq_V D vwCl (zz_tys cI cZ) (wM q cI cZ) A out) args s 0 0 A) (F0 m 183 ls []) := by
  intro n
  induction n with
  | zero =>
    intro σ x1 H locs ls X hl hf
    exact absurd hf (by simp [zf_Mo_scan_L183])
  | succ n ih =>
    intro σ x1 H locs ls X hl hf
    rw [zf_Mo_scan_L183] at hf
    refine lv_iload_n hx hb zd_Mo_scan_183 rfl (lv_at hl 1 rfl) ?_
    refine lv_aload_n hx hb zd_Mo_scan_184 rfl (lv_at hl 0 rfl) ?_
    refine zg_Mo_blocks hx hb hts hown X zd_Mo_scan_185 ?_
    refine lv_icmp_ge (tgt := 230) hx hb zd_Mo_scan_188 (by decide) (fun g34 => ?_) (fun g34 => ?_)
    · rw [if_pos g34] at hf
      exact hkx σ _ _ _ X (lv_sub hl [] rfl) hf
    · rw [if_neg g34] at hf
      refine lv_aload_n hx hb zd_Mo_scan_191 rfl (lv_at hl 0 rfl) ?_
      refine zg_Mo_rests hx hb hts hown X zd_Mo_scan_192 ?_
      refine lv_iload_n hx hb zd_Mo_scan_195 rfl (lv_at hl 1 rfl) ?_
      obtain ⟨hin, hf⟩ := zz_ck_some hf
      refine za_Mo_rests hx hb X hin zd_Mo_scan_196 ?_
      refine lv_if_gt (tgt := 224) hx hb zd_Mo_scan_197 (by decide) (fun g33 => ?_) (fun g33 => ?_)
      · rw [if_pos g33] at hf
        refine lv_iinc (v := (x1 + (1 : Int32))) (lv' := [(1, .int (x1 + (1 : Int32))), (0, .ref (q 0))]) hx hb zd_Mo_scan_224 hl (k := 1) rfl rfl (by decide) rfl (fun ls hl => ?_)
        refine lv_goto (tgt := 183) hx hb zd_Mo_scan_227 (by decide) ?_
        exact ih σ (x1 + (1 : Int32)) _ _ _ X (lv_sub hl [1, 0] rfl) hf
      · rw [if_neg g33] at hf
        refine lv_aload_n hx hb zd_Mo_scan_200 rfl (lv_at hl 0 rfl) ?_
        refine zg_Mo_seen hx hb hts hown X zd_Mo_scan_201 ?_
        refine lv_iload_n hx hb zd_Mo_scan_204 rfl (lv_at hl 1 rfl) ?_
        obtain ⟨hin, hf⟩ := zz_ck_some hf
        refine za_Mo_seen hx hb X hin zd_Mo_scan_205 ?_
        refine lv_if_eq (tgt := 212) hx hb zd_Mo_scan_206 (by decide) (fun g32 => ?_) (fun g32 => ?_)
        · rw [if_pos g32] at hf
          refine lv_aload_n hx hb zd_Mo_scan_212 rfl (lv_at hl 0 rfl) ?_
          refine zg_Mo_seen hx hb hts hown X zd_Mo_scan_213 ?_
          refine lv_iload_n hx hb zd_Mo_scan_216 rfl (lv_at hl 1 rfl) ?_
          refine lv_iconst (v := 3) hx hb zd_Mo_scan_217 (by decide) ?_
          obtain ⟨hin, hf⟩ := zz_ck_some hf
          refine zs_Mo_seen hx hb X hin zd_Mo_scan_218 (fun H locs X => ?_)
          refine lv_aload_n hx hb zd_Mo_scan_219 rfl (lv_at hl 0 rfl) ?_
          refine lv_iload_n hx hb zd_Mo_scan_220 rfl (lv_at hl 1 rfl) ?_
          obtain ⟨u30, h31, hf⟩ := Option.bind_eq_some_iff.mp hf
          refine zr_cvV (As := [.int x1]) (rest := []) (q0 := 0) (ci := 9) hx hb hml hown hts hl.1 X (zk_Mo_drag l D q cI cZ h31) zkw_Mo_drag zl_Mo_189 rfl rfl (Nat.le_of_ble_eq_true rfl) rfl rfl ⟨rfl, rfl⟩ ⟨Nat.le_of_ble_eq_true rfl, Nat.le_of_ble_eq_true rfl⟩ zd_Mo_scan_221 (fun H locs X => ?_)
          refine lv_iinc (v := (x1 + (1 : Int32))) (lv' := [(1, .int (x1 + (1 : Int32))), (0, .ref (q 0))]) hx hb zd_Mo_scan_224 hl (k := 1) rfl rfl (by decide) rfl (fun ls hl => ?_)
          refine lv_goto (tgt := 183) hx hb zd_Mo_scan_227 (by decide) ?_
          exact ih u30 (x1 + (1 : Int32)) _ _ _ X (lv_sub hl [1, 0] rfl) hf
        · rw [if_neg g32] at hf
          refine lv_goto (tgt := 224) hx hb zd_Mo_scan_209 (by decide) ?_
          refine lv_iinc (v := (x1 + (1 : Int32))) (lv' := [(1, .int (x1 + (1 : Int32))), (0, .ref (q 0))]) hx hb zd_Mo_scan_224 hl (k := 1) rfl rfl (by decide) rfl (fun ls hl => ?_)
          refine lv_goto (tgt := 183) hx hb zd_Mo_scan_227 (by decide) ?_
          exact ih σ (x1 + (1 : Int32)) _ _ _ X (lv_sub hl [1, 0] rfl) hf

set_option maxRecDepth 100000 in
set_option maxHeartbeats 4000000 in
theorem zk_Mo_scan (l : Launch) (D : va_G) (q : Nat → Nat) (cI cZ : ClassId) {σ : St} {out : St} (hf : zf_Mo_scan σ = some out) : zV l D vwCl (zz_tys cI cZ) (wM q cI cZ) zy_Mo_scan (.code zy_Mo_scan zc_Mo_scan 3 none :: zz_WS) zm_Mo_scan [.ref (q 0)] σ out := by
  refine zV_of (by decide +kernel) (Nat.le_of_ble_eq_true rfl) (fun p e s m below meth c A ls hx hb hml hown hts hr hlocks X hl => ?_)
  have hl : lv_has ls 3 [(0, .ref (q 0))] := hl
  unfold zf_Mo_scan at hf
  refine lv_iconst (v := 0) hx hb zd_Mo_scan_0 (by decide) ?_
  refine lv_istore_n (lv' := [(1, .int (0 : Int32)), (0, .ref (q 0))]) hx hb zd_Mo_scan_1 rfl hl (by decide) rfl (fun ls hl => ?_)
  refine zw_Mo_scan_L2 hx hb hml hown hts hr hlocks out _ (fun s2 H locs ls X hl hf => ?_) 300 σ (0 : Int32) _ _ _ X (lv_sub hl [1, 0] rfl) hf
  refine lv_iconst (v := 0) hx hb zd_Mo_scan_23 (by decide) ?_
  refine lv_istore_n (lv' := [(1, .int (0 : Int32)), (0, .ref (q 0))]) hx hb zd_Mo_scan_24 rfl hl (by decide) rfl (fun ls hl => ?_)
  refine zw_Mo_scan_L25 hx hb hml hown hts hr hlocks out _ (fun s14 H locs ls X hl hf => ?_) 300 s2 (0 : Int32) _ _ _ X (lv_sub hl [1, 0] rfl) hf
  refine lv_iconst (v := 0) hx hb zd_Mo_scan_97 (by decide) ?_
  refine lv_istore_n (lv' := [(1, .int (0 : Int32)), (0, .ref (q 0))]) hx hb zd_Mo_scan_98 rfl hl (by decide) rfl (fun ls hl => ?_)
  refine zw_Mo_scan_L99 hx hb hml hown hts hr hlocks out _ (fun s29 H locs ls X hl hf => ?_) 300 s14 (0 : Int32) _ _ _ X (lv_sub hl [1, 0] rfl) hf
  refine lv_iconst (v := 0) hx hb zd_Mo_scan_181 (by decide) ?_
  refine lv_istore_n (lv' := [(1, .int (0 : Int32)), (0, .ref (q 0))]) hx hb zd_Mo_scan_182 rfl hl (by decide) rfl (fun ls hl => ?_)
  refine zw_Mo_scan_L183 hx hb hml hown hts hr hlocks out _ (fun s35 H locs ls X hl hf => ?_) 300 s29 (0 : Int32) _ _ _ X (lv_sub hl [1, 0] rfl) hf
  exact zr_vret hx hb hr hlocks X (Option.some.inj hf) zd_Mo_scan_230

set_option maxRecDepth 100000 in
set_option maxHeartbeats 4000000 in
theorem zk_Mo_register (l : Launch) (D : va_G) (q : Nat → Nat) (cI cZ : ClassId) {σ : St} {x1 x2 : Int32} {out : (Int32 × St)} (hf : zf_Mo_register σ x1 x2 = some out) : zI l D vwCl (zz_tys cI cZ) (wM q cI cZ) zy_Mo_register (.code zy_Mo_register zc_Mo_register 3 (some .int) :: zz_WS) zm_Mo_register [.ref (q 0), .int x1, .int x2] σ out := by
  refine zI_of (by decide +kernel) (Nat.le_of_ble_eq_true rfl) (fun p e s m below meth c A ls hx hb hml hown hts hr hlocks X hl => ?_)
  have hl : lv_has ls 3 [(0, .ref (q 0)), (1, .int x1), (2, .int x2)] := hl
  unfold zf_Mo_register at hf
  refine lv_aload_n hx hb zd_Mo_register_0 rfl (lv_at hl 0 rfl) ?_
  refine lv_iload_n hx hb zd_Mo_register_1 rfl (lv_at hl 1 rfl) ?_
  refine lv_iconst (v := 0) hx hb zd_Mo_register_2 (by decide) ?_
  refine lv_bipush (v := 7) hx hb zd_Mo_register_3 (by decide) ?_
  obtain ⟨r1, h18, hf⟩ := Option.bind_eq_some_iff.mp hf
  refine zr_csP (As := [.int x1, .int (0 : Int32), .int (7 : Int32)]) (rest := [.ref (q 0)]) hx hb hml hown hts hl.1 X (zk_Mo_in l D q cI cZ h18) zkw_Mo_in zl_Mo_79 rfl rfl (Nat.le_of_ble_eq_true rfl) ⟨rfl, rfl⟩ ⟨Nat.le_of_ble_eq_true rfl, Nat.le_of_ble_eq_true rfl⟩ zd_Mo_register_5 (fun H locs X => ?_)
  refine lv_if_eq (tgt := 24) hx hb zd_Mo_register_8 (by decide) (fun g17 => ?_) (fun g17 => ?_)
  · rw [if_pos g17] at hf
    refine lv_iconst (v := 0) hx hb zd_Mo_register_24 (by decide) ?_
    obtain ⟨u2, h5, hf⟩ := Option.bind_eq_some_iff.mp hf
    refine zr_cvI (As := [.int (0 : Int32)]) (rest := []) (q0 := 0) (ci := 9) hx hb hml hown hts hl.1 X (zk_Mo_bad l D q cI cZ h5) zkw_Mo_bad zl_Mo_87 rfl rfl (Nat.le_of_ble_eq_true rfl) rfl rfl ⟨rfl, rfl⟩ ⟨Nat.le_of_ble_eq_true rfl, Nat.le_of_ble_eq_true rfl⟩ zd_Mo_register_25 (fun H locs X => ?_)
    refine lv_if_eq (tgt := 33) hx hb zd_Mo_register_28 (by decide) (fun g4 => ?_) (fun g4 => ?_)
    · rw [if_pos g4] at hf
      refine lv_iload_n hx hb zd_Mo_register_33 rfl (lv_at hl 2 rfl) ?_
      refine lv_if_ne (tgt := 46) hx hb zd_Mo_register_34 (by decide) (fun g3 => ?_) (fun g3 => ?_)
      · rw [if_neg g3] at hf
        refine lv_aload_n hx hb zd_Mo_register_46 rfl (lv_at hl 0 rfl) ?_
        refine zg_Mo_sure hx hb hts hown X zd_Mo_register_47 ?_
        refine lv_iload_n hx hb zd_Mo_register_50 rfl (lv_at hl 1 rfl) ?_
        obtain ⟨hin, hf⟩ := zz_ck_some hf
        refine za_Mo_sure hx hb X hin zd_Mo_register_51 ?_
        exact zr_iret hx hb hr hlocks X (Option.some.inj hf) zd_Mo_register_52
      · rw [if_pos g3] at hf
        refine lv_aload_n hx hb zd_Mo_register_37 rfl (lv_at hl 0 rfl) ?_
        refine zg_Mo_register hx hb hts hown X zd_Mo_register_38 ?_
        refine lv_iload_n hx hb zd_Mo_register_41 rfl (lv_at hl 1 rfl) ?_
        obtain ⟨hin, hf⟩ := zz_ck_some hf
        refine za_Mo_register hx hb X hin zd_Mo_register_42 ?_
        refine lv_goto (tgt := 52) hx hb zd_Mo_register_43 (by decide) ?_
        exact zr_iret hx hb hr hlocks X (Option.some.inj hf) zd_Mo_register_52
    · rw [if_neg g4] at hf
      refine lv_iconst (v := 0) hx hb zd_Mo_register_31 (by decide) ?_
      exact zr_iret hx hb hr hlocks X (Option.some.inj hf) zd_Mo_register_32
  · rw [if_neg g17] at hf
    refine lv_iload_n hx hb zd_Mo_register_11 rfl (lv_at hl 2 rfl) ?_
    refine lv_iconst (v := 0) hx hb zd_Mo_register_12 (by decide) ?_
    refine lv_iconst (v := 1) hx hb zd_Mo_register_13 (by decide) ?_
    obtain ⟨r6, h16, hf⟩ := Option.bind_eq_some_iff.mp hf
    refine zr_csP (As := [.int x2, .int (0 : Int32), .int (1 : Int32)]) (rest := [.ref (q 0)]) hx hb hml hown hts hl.1 X (zk_Mo_in l D q cI cZ h16) zkw_Mo_in zl_Mo_79 rfl rfl (Nat.le_of_ble_eq_true rfl) ⟨rfl, rfl⟩ ⟨Nat.le_of_ble_eq_true rfl, Nat.le_of_ble_eq_true rfl⟩ zd_Mo_register_14 (fun H locs X => ?_)
    refine lv_if_eq (tgt := 24) hx hb zd_Mo_register_17 (by decide) (fun g15 => ?_) (fun g15 => ?_)
    · rw [if_pos g15] at hf
      refine lv_iconst (v := 0) hx hb zd_Mo_register_24 (by decide) ?_
      obtain ⟨u7, h10, hf⟩ := Option.bind_eq_some_iff.mp hf
      refine zr_cvI (As := [.int (0 : Int32)]) (rest := []) (q0 := 0) (ci := 9) hx hb hml hown hts hl.1 X (zk_Mo_bad l D q cI cZ h10) zkw_Mo_bad zl_Mo_87 rfl rfl (Nat.le_of_ble_eq_true rfl) rfl rfl ⟨rfl, rfl⟩ ⟨Nat.le_of_ble_eq_true rfl, Nat.le_of_ble_eq_true rfl⟩ zd_Mo_register_25 (fun H locs X => ?_)
      refine lv_if_eq (tgt := 33) hx hb zd_Mo_register_28 (by decide) (fun g9 => ?_) (fun g9 => ?_)
      · rw [if_pos g9] at hf
        refine lv_iload_n hx hb zd_Mo_register_33 rfl (lv_at hl 2 rfl) ?_
        refine lv_if_ne (tgt := 46) hx hb zd_Mo_register_34 (by decide) (fun g8 => ?_) (fun g8 => ?_)
        · rw [if_neg g8] at hf
          refine lv_aload_n hx hb zd_Mo_register_46 rfl (lv_at hl 0 rfl) ?_
          refine zg_Mo_sure hx hb hts hown X zd_Mo_register_47 ?_
          refine lv_iload_n hx hb zd_Mo_register_50 rfl (lv_at hl 1 rfl) ?_
          obtain ⟨hin, hf⟩ := zz_ck_some hf
          refine za_Mo_sure hx hb X hin zd_Mo_register_51 ?_
          exact zr_iret hx hb hr hlocks X (Option.some.inj hf) zd_Mo_register_52
        · rw [if_pos g8] at hf
          refine lv_aload_n hx hb zd_Mo_register_37 rfl (lv_at hl 0 rfl) ?_
          refine zg_Mo_register hx hb hts hown X zd_Mo_register_38 ?_
          refine lv_iload_n hx hb zd_Mo_register_41 rfl (lv_at hl 1 rfl) ?_
          obtain ⟨hin, hf⟩ := zz_ck_some hf
          refine za_Mo_register hx hb X hin zd_Mo_register_42 ?_
          refine lv_goto (tgt := 52) hx hb zd_Mo_register_43 (by decide) ?_
          exact zr_iret hx hb hr hlocks X (Option.some.inj hf) zd_Mo_register_52
      · rw [if_neg g9] at hf
        refine lv_iconst (v := 0) hx hb zd_Mo_register_31 (by decide) ?_
        exact zr_iret hx hb hr hlocks X (Option.some.inj hf) zd_Mo_register_32
    · rw [if_neg g15] at hf
      refine lv_iconst (v := 1) hx hb zd_Mo_register_20 (by decide) ?_
      refine lv_goto (tgt := 25) hx hb zd_Mo_register_21 (by decide) ?_
      obtain ⟨u11, h14, hf⟩ := Option.bind_eq_some_iff.mp hf
      refine zr_cvI (As := [.int (1 : Int32)]) (rest := []) (q0 := 0) (ci := 9) hx hb hml hown hts hl.1 X (zk_Mo_bad l D q cI cZ h14) zkw_Mo_bad zl_Mo_87 rfl rfl (Nat.le_of_ble_eq_true rfl) rfl rfl ⟨rfl, rfl⟩ ⟨Nat.le_of_ble_eq_true rfl, Nat.le_of_ble_eq_true rfl⟩ zd_Mo_register_25 (fun H locs X => ?_)
      refine lv_if_eq (tgt := 33) hx hb zd_Mo_register_28 (by decide) (fun g13 => ?_) (fun g13 => ?_)
      · rw [if_pos g13] at hf
        refine lv_iload_n hx hb zd_Mo_register_33 rfl (lv_at hl 2 rfl) ?_
        refine lv_if_ne (tgt := 46) hx hb zd_Mo_register_34 (by decide) (fun g12 => ?_) (fun g12 => ?_)
        · rw [if_neg g12] at hf
          refine lv_aload_n hx hb zd_Mo_register_46 rfl (lv_at hl 0 rfl) ?_
          refine zg_Mo_sure hx hb hts hown X zd_Mo_register_47 ?_
          refine lv_iload_n hx hb zd_Mo_register_50 rfl (lv_at hl 1 rfl) ?_
          obtain ⟨hin, hf⟩ := zz_ck_some hf
          refine za_Mo_sure hx hb X hin zd_Mo_register_51 ?_
          exact zr_iret hx hb hr hlocks X (Option.some.inj hf) zd_Mo_register_52
        · rw [if_pos g12] at hf
          refine lv_aload_n hx hb zd_Mo_register_37 rfl (lv_at hl 0 rfl) ?_
          refine zg_Mo_register hx hb hts hown X zd_Mo_register_38 ?_
          refine lv_iload_n hx hb zd_Mo_register_41 rfl (lv_at hl 1 rfl) ?_
          obtain ⟨hin, hf⟩ := zz_ck_some hf
          refine za_Mo_register hx hb X hin zd_Mo_register_42 ?_
          refine lv_goto (tgt := 52) hx hb zd_Mo_register_43 (by decide) ?_
          exact zr_iret hx hb hr hlocks X (Option.some.inj hf) zd_Mo_register_52
      · rw [if_neg g13] at hf
        refine lv_iconst (v := 0) hx hb zd_Mo_register_31 (by decide) ?_
        exact zr_iret hx hb hr hlocks X (Option.some.inj hf) zd_Mo_register_32

set_option maxRecDepth 100000 in
set_option maxHeartbeats 4000000 in
theorem zk_Mo_memory (l : Launch) (D : va_G) (q : Nat → Nat) (cI cZ : ClassId) {σ : St} {x1 x2 : Int32} {out : (Int32 × St)} (hf : zf_Mo_memory σ x1 x2 = some out) : zI l D vwCl (zz_tys cI cZ) (wM q cI cZ) zy_Mo_memory (.code zy_Mo_memory zc_Mo_memory 3 (some .int) :: zz_WS) zm_Mo_memory [.ref (q 0), .int x1, .int x2] σ out := by
  refine zI_of (by decide +kernel) (Nat.le_of_ble_eq_true rfl) (fun p e s m below meth c A ls hx hb hml hown hts hr hlocks X hl => ?_)
  have hl : lv_has ls 3 [(0, .ref (q 0)), (1, .int x1), (2, .int x2)] := hl
  unfold zf_Mo_memory at hf
  refine lv_aload_n hx hb zd_Mo_memory_0 rfl (lv_at hl 0 rfl) ?_
  refine lv_iload_n hx hb zd_Mo_memory_1 rfl (lv_at hl 1 rfl) ?_
  refine lv_iconst (v := 0) hx hb zd_Mo_memory_2 (by decide) ?_
  refine lv_sipush (v := 255) hx hb zd_Mo_memory_3 (by decide) ?_
  obtain ⟨r1, h21, hf⟩ := Option.bind_eq_some_iff.mp hf
  refine zr_csP (As := [.int x1, .int (0 : Int32), .int (255 : Int32)]) (rest := [.ref (q 0)]) hx hb hml hown hts hl.1 X (zk_Mo_in l D q cI cZ h21) zkw_Mo_in zl_Mo_79 rfl rfl (Nat.le_of_ble_eq_true rfl) ⟨rfl, rfl⟩ ⟨Nat.le_of_ble_eq_true rfl, Nat.le_of_ble_eq_true rfl⟩ zd_Mo_memory_6 (fun H locs X => ?_)
  refine lv_if_eq (tgt := 25) hx hb zd_Mo_memory_9 (by decide) (fun g20 => ?_) (fun g20 => ?_)
  · rw [if_pos g20] at hf
    refine lv_iconst (v := 0) hx hb zd_Mo_memory_25 (by decide) ?_
    obtain ⟨u2, h6, hf⟩ := Option.bind_eq_some_iff.mp hf
    refine zr_cvI (As := [.int (0 : Int32)]) (rest := []) (q0 := 0) (ci := 9) hx hb hml hown hts hl.1 X (zk_Mo_bad l D q cI cZ h6) zkw_Mo_bad zl_Mo_87 rfl rfl (Nat.le_of_ble_eq_true rfl) rfl rfl ⟨rfl, rfl⟩ ⟨Nat.le_of_ble_eq_true rfl, Nat.le_of_ble_eq_true rfl⟩ zd_Mo_memory_26 (fun H locs X => ?_)
    refine lv_if_eq (tgt := 34) hx hb zd_Mo_memory_29 (by decide) (fun g5 => ?_) (fun g5 => ?_)
    · rw [if_pos g5] at hf
      refine lv_iload_n hx hb zd_Mo_memory_34 rfl (lv_at hl 2 rfl) ?_
      refine lv_if_ne (tgt := 47) hx hb zd_Mo_memory_35 (by decide) (fun g4 => ?_) (fun g4 => ?_)
      · rw [if_neg g4] at hf
        refine lv_iload_n hx hb zd_Mo_memory_47 rfl (lv_at hl 2 rfl) ?_
        refine lv_iconst (v := 1) hx hb zd_Mo_memory_48 (by decide) ?_
        refine lv_icmp_ne (tgt := 61) hx hb zd_Mo_memory_49 (by decide) (fun g3 => ?_) (fun g3 => ?_)
        · rw [if_neg g3] at hf
          refine lv_aload_n hx hb zd_Mo_memory_61 rfl (lv_at hl 0 rfl) ?_
          refine zg_Mo_known hx hb hts hown X zd_Mo_memory_62 ?_
          refine lv_iload_n hx hb zd_Mo_memory_65 rfl (lv_at hl 1 rfl) ?_
          obtain ⟨hin, hf⟩ := zz_ck_some hf
          refine za_Mo_known hx hb X hin zd_Mo_memory_66 ?_
          exact zr_iret hx hb hr hlocks X (Option.some.inj hf) zd_Mo_memory_67
        · rw [if_pos g3] at hf
          refine lv_aload_n hx hb zd_Mo_memory_52 rfl (lv_at hl 0 rfl) ?_
          refine zg_Mo_open hx hb hts hown X zd_Mo_memory_53 ?_
          refine lv_iload_n hx hb zd_Mo_memory_56 rfl (lv_at hl 1 rfl) ?_
          obtain ⟨hin, hf⟩ := zz_ck_some hf
          refine za_Mo_open hx hb X hin zd_Mo_memory_57 ?_
          refine lv_goto (tgt := 67) hx hb zd_Mo_memory_58 (by decide) ?_
          exact zr_iret hx hb hr hlocks X (Option.some.inj hf) zd_Mo_memory_67
      · rw [if_pos g4] at hf
        refine lv_aload_n hx hb zd_Mo_memory_38 rfl (lv_at hl 0 rfl) ?_
        refine zg_Mo_memory hx hb hts hown X zd_Mo_memory_39 ?_
        refine lv_iload_n hx hb zd_Mo_memory_42 rfl (lv_at hl 1 rfl) ?_
        obtain ⟨hin, hf⟩ := zz_ck_some hf
        refine za_Mo_memory hx hb X hin zd_Mo_memory_43 ?_
        refine lv_goto (tgt := 67) hx hb zd_Mo_memory_44 (by decide) ?_
        exact zr_iret hx hb hr hlocks X (Option.some.inj hf) zd_Mo_memory_67
    · rw [if_neg g5] at hf
      refine lv_iconst (v := 0) hx hb zd_Mo_memory_32 (by decide) ?_
      exact zr_iret hx hb hr hlocks X (Option.some.inj hf) zd_Mo_memory_33
  · rw [if_neg g20] at hf
    refine lv_iload_n hx hb zd_Mo_memory_12 rfl (lv_at hl 2 rfl) ?_
    refine lv_iconst (v := 0) hx hb zd_Mo_memory_13 (by decide) ?_
    refine lv_iconst (v := 2) hx hb zd_Mo_memory_14 (by decide) ?_
    obtain ⟨r7, h19, hf⟩ := Option.bind_eq_some_iff.mp hf
    refine zr_csP (As := [.int x2, .int (0 : Int32), .int (2 : Int32)]) (rest := [.ref (q 0)]) hx hb hml hown hts hl.1 X (zk_Mo_in l D q cI cZ h19) zkw_Mo_in zl_Mo_79 rfl rfl (Nat.le_of_ble_eq_true rfl) ⟨rfl, rfl⟩ ⟨Nat.le_of_ble_eq_true rfl, Nat.le_of_ble_eq_true rfl⟩ zd_Mo_memory_15 (fun H locs X => ?_)
    refine lv_if_eq (tgt := 25) hx hb zd_Mo_memory_18 (by decide) (fun g18 => ?_) (fun g18 => ?_)
    · rw [if_pos g18] at hf
      refine lv_iconst (v := 0) hx hb zd_Mo_memory_25 (by decide) ?_
      obtain ⟨u8, h12, hf⟩ := Option.bind_eq_some_iff.mp hf
      refine zr_cvI (As := [.int (0 : Int32)]) (rest := []) (q0 := 0) (ci := 9) hx hb hml hown hts hl.1 X (zk_Mo_bad l D q cI cZ h12) zkw_Mo_bad zl_Mo_87 rfl rfl (Nat.le_of_ble_eq_true rfl) rfl rfl ⟨rfl, rfl⟩ ⟨Nat.le_of_ble_eq_true rfl, Nat.le_of_ble_eq_true rfl⟩ zd_Mo_memory_26 (fun H locs X => ?_)
      refine lv_if_eq (tgt := 34) hx hb zd_Mo_memory_29 (by decide) (fun g11 => ?_) (fun g11 => ?_)
      · rw [if_pos g11] at hf
        refine lv_iload_n hx hb zd_Mo_memory_34 rfl (lv_at hl 2 rfl) ?_
        refine lv_if_ne (tgt := 47) hx hb zd_Mo_memory_35 (by decide) (fun g10 => ?_) (fun g10 => ?_)
        · rw [if_neg g10] at hf
          refine lv_iload_n hx hb zd_Mo_memory_47 rfl (lv_at hl 2 rfl) ?_
          refine lv_iconst (v := 1) hx hb zd_Mo_memory_48 (by decide) ?_
          refine lv_icmp_ne (tgt := 61) hx hb zd_Mo_memory_49 (by decide) (fun g9 => ?_) (fun g9 => ?_)
          · rw [if_neg g9] at hf
            refine lv_aload_n hx hb zd_Mo_memory_61 rfl (lv_at hl 0 rfl) ?_
            refine zg_Mo_known hx hb hts hown X zd_Mo_memory_62 ?_
            refine lv_iload_n hx hb zd_Mo_memory_65 rfl (lv_at hl 1 rfl) ?_
            obtain ⟨hin, hf⟩ := zz_ck_some hf
            refine za_Mo_known hx hb X hin zd_Mo_memory_66 ?_
            exact zr_iret hx hb hr hlocks X (Option.some.inj hf) zd_Mo_memory_67
          · rw [if_pos g9] at hf
            refine lv_aload_n hx hb zd_Mo_memory_52 rfl (lv_at hl 0 rfl) ?_
            refine zg_Mo_open hx hb hts hown X zd_Mo_memory_53 ?_
            refine lv_iload_n hx hb zd_Mo_memory_56 rfl (lv_at hl 1 rfl) ?_
            obtain ⟨hin, hf⟩ := zz_ck_some hf
            refine za_Mo_open hx hb X hin zd_Mo_memory_57 ?_
            refine lv_goto (tgt := 67) hx hb zd_Mo_memory_58 (by decide) ?_
            exact zr_iret hx hb hr hlocks X (Option.some.inj hf) zd_Mo_memory_67
        · rw [if_pos g10] at hf
          refine lv_aload_n hx hb zd_Mo_memory_38 rfl (lv_at hl 0 rfl) ?_
          refine zg_Mo_memory hx hb hts hown X zd_Mo_memory_39 ?_
          refine lv_iload_n hx hb zd_Mo_memory_42 rfl (lv_at hl 1 rfl) ?_
          obtain ⟨hin, hf⟩ := zz_ck_some hf
          refine za_Mo_memory hx hb X hin zd_Mo_memory_43 ?_
          refine lv_goto (tgt := 67) hx hb zd_Mo_memory_44 (by decide) ?_
          exact zr_iret hx hb hr hlocks X (Option.some.inj hf) zd_Mo_memory_67
      · rw [if_neg g11] at hf
        refine lv_iconst (v := 0) hx hb zd_Mo_memory_32 (by decide) ?_
        exact zr_iret hx hb hr hlocks X (Option.some.inj hf) zd_Mo_memory_33
    · rw [if_neg g18] at hf
      refine lv_iconst (v := 1) hx hb zd_Mo_memory_21 (by decide) ?_
      refine lv_goto (tgt := 26) hx hb zd_Mo_memory_22 (by decide) ?_
      obtain ⟨u13, h17, hf⟩ := Option.bind_eq_some_iff.mp hf
      refine zr_cvI (As := [.int (1 : Int32)]) (rest := []) (q0 := 0) (ci := 9) hx hb hml hown hts hl.1 X (zk_Mo_bad l D q cI cZ h17) zkw_Mo_bad zl_Mo_87 rfl rfl (Nat.le_of_ble_eq_true rfl) rfl rfl ⟨rfl, rfl⟩ ⟨Nat.le_of_ble_eq_true rfl, Nat.le_of_ble_eq_true rfl⟩ zd_Mo_memory_26 (fun H locs X => ?_)
      refine lv_if_eq (tgt := 34) hx hb zd_Mo_memory_29 (by decide) (fun g16 => ?_) (fun g16 => ?_)
      · rw [if_pos g16] at hf
        refine lv_iload_n hx hb zd_Mo_memory_34 rfl (lv_at hl 2 rfl) ?_
        refine lv_if_ne (tgt := 47) hx hb zd_Mo_memory_35 (by decide) (fun g15 => ?_) (fun g15 => ?_)
        · rw [if_neg g15] at hf
          refine lv_iload_n hx hb zd_Mo_memory_47 rfl (lv_at hl 2 rfl) ?_
          refine lv_iconst (v := 1) hx hb zd_Mo_memory_48 (by decide) ?_
          refine lv_icmp_ne (tgt := 61) hx hb zd_Mo_memory_49 (by decide) (fun g14 => ?_) (fun g14 => ?_)
          · rw [if_neg g14] at hf
            refine lv_aload_n hx hb zd_Mo_memory_61 rfl (lv_at hl 0 rfl) ?_
            refine zg_Mo_known hx hb hts hown X zd_Mo_memory_62 ?_
            refine lv_iload_n hx hb zd_Mo_memory_65 rfl (lv_at hl 1 rfl) ?_
            obtain ⟨hin, hf⟩ := zz_ck_some hf
            refine za_Mo_known hx hb X hin zd_Mo_memory_66 ?_
            exact zr_iret hx hb hr hlocks X (Option.some.inj hf) zd_Mo_memory_67
          · rw [if_pos g14] at hf
            refine lv_aload_n hx hb zd_Mo_memory_52 rfl (lv_at hl 0 rfl) ?_
            refine zg_Mo_open hx hb hts hown X zd_Mo_memory_53 ?_
            refine lv_iload_n hx hb zd_Mo_memory_56 rfl (lv_at hl 1 rfl) ?_
            obtain ⟨hin, hf⟩ := zz_ck_some hf
            refine za_Mo_open hx hb X hin zd_Mo_memory_57 ?_
            refine lv_goto (tgt := 67) hx hb zd_Mo_memory_58 (by decide) ?_
            exact zr_iret hx hb hr hlocks X (Option.some.inj hf) zd_Mo_memory_67
        · rw [if_pos g15] at hf
          refine lv_aload_n hx hb zd_Mo_memory_38 rfl (lv_at hl 0 rfl) ?_
          refine zg_Mo_memory hx hb hts hown X zd_Mo_memory_39 ?_
          refine lv_iload_n hx hb zd_Mo_memory_42 rfl (lv_at hl 1 rfl) ?_
          obtain ⟨hin, hf⟩ := zz_ck_some hf
          refine za_Mo_memory hx hb X hin zd_Mo_memory_43 ?_
          refine lv_goto (tgt := 67) hx hb zd_Mo_memory_44 (by decide) ?_
          exact zr_iret hx hb hr hlocks X (Option.some.inj hf) zd_Mo_memory_67
      · rw [if_neg g16] at hf
        refine lv_iconst (v := 0) hx hb zd_Mo_memory_32 (by decide) ?_
        exact zr_iret hx hb hr hlocks X (Option.some.inj hf) zd_Mo_memory_33

set_option maxRecDepth 100000 in
set_option maxHeartbeats 4000000 in
theorem zk_Mo_poke (l : Launch) (D : va_G) (q : Nat → Nat) (cI cZ : ClassId) {σ : St} {x1 x2 : Int32} {out : St} (hf : zf_Mo_poke σ x1 x2 = some out) : zV l D vwCl (zz_tys cI cZ) (wM q cI cZ) zy_Mo_poke (.code zy_Mo_poke zc_Mo_poke 3 none :: zz_WS) zm_Mo_poke [.ref (q 0), .int x1, .int x2] σ out := by
  refine zV_of (by decide +kernel) (Nat.le_of_ble_eq_true rfl) (fun p e s m below meth c A ls hx hb hml hown hts hr hlocks X hl => ?_)
  have hl : lv_has ls 3 [(0, .ref (q 0)), (1, .int x1), (2, .int x2)] := hl
  unfold zf_Mo_poke at hf
  refine lv_aload_n hx hb zd_Mo_poke_0 rfl (lv_at hl 0 rfl) ?_
  refine lv_iload_n hx hb zd_Mo_poke_1 rfl (lv_at hl 1 rfl) ?_
  refine lv_iconst (v := 0) hx hb zd_Mo_poke_2 (by decide) ?_
  refine lv_sipush (v := 255) hx hb zd_Mo_poke_3 (by decide) ?_
  obtain ⟨r1, h15, hf⟩ := Option.bind_eq_some_iff.mp hf
  refine zr_csP (As := [.int x1, .int (0 : Int32), .int (255 : Int32)]) (rest := [.ref (q 0)]) hx hb hml hown hts hl.1 X (zk_Mo_in l D q cI cZ h15) zkw_Mo_in zl_Mo_79 rfl rfl (Nat.le_of_ble_eq_true rfl) ⟨rfl, rfl⟩ ⟨Nat.le_of_ble_eq_true rfl, Nat.le_of_ble_eq_true rfl⟩ zd_Mo_poke_6 (fun H locs X => ?_)
  refine lv_if_eq (tgt := 27) hx hb zd_Mo_poke_9 (by decide) (fun g14 => ?_) (fun g14 => ?_)
  · rw [if_pos g14] at hf
    refine lv_iconst (v := 0) hx hb zd_Mo_poke_27 (by decide) ?_
    obtain ⟨u2, h4, hf⟩ := Option.bind_eq_some_iff.mp hf
    refine zr_cvI (As := [.int (0 : Int32)]) (rest := []) (q0 := 0) (ci := 9) hx hb hml hown hts hl.1 X (zk_Mo_bad l D q cI cZ h4) zkw_Mo_bad zl_Mo_87 rfl rfl (Nat.le_of_ble_eq_true rfl) rfl rfl ⟨rfl, rfl⟩ ⟨Nat.le_of_ble_eq_true rfl, Nat.le_of_ble_eq_true rfl⟩ zd_Mo_poke_28 (fun H locs X => ?_)
    refine lv_if_eq (tgt := 35) hx hb zd_Mo_poke_31 (by decide) (fun g3 => ?_) (fun g3 => ?_)
    · rw [if_pos g3] at hf
      refine lv_aload_n hx hb zd_Mo_poke_35 rfl (lv_at hl 0 rfl) ?_
      refine zg_Mo_memory hx hb hts hown X zd_Mo_poke_36 ?_
      refine lv_iload_n hx hb zd_Mo_poke_39 rfl (lv_at hl 1 rfl) ?_
      refine lv_iload_n hx hb zd_Mo_poke_40 rfl (lv_at hl 2 rfl) ?_
      obtain ⟨hin, hf⟩ := zz_ck_some hf
      refine zs_Mo_memory hx hb X hin zd_Mo_poke_41 (fun H locs X => ?_)
      refine lv_aload_n hx hb zd_Mo_poke_42 rfl (lv_at hl 0 rfl) ?_
      refine zg_Mo_known hx hb hts hown X zd_Mo_poke_43 ?_
      refine lv_iload_n hx hb zd_Mo_poke_46 rfl (lv_at hl 1 rfl) ?_
      refine lv_iconst (v := 1) hx hb zd_Mo_poke_47 (by decide) ?_
      obtain ⟨hin, hf⟩ := zz_ck_some hf
      refine zs_Mo_known hx hb X hin zd_Mo_poke_48 (fun H locs X => ?_)
      exact zr_vret hx hb hr hlocks X (Option.some.inj hf) zd_Mo_poke_49
    · rw [if_neg g3] at hf
      exact zr_vret hx hb hr hlocks X (Option.some.inj hf) zd_Mo_poke_34
  · rw [if_neg g14] at hf
    refine lv_iload_n hx hb zd_Mo_poke_12 rfl (lv_at hl 2 rfl) ?_
    refine lv_iconst (v := 0) hx hb zd_Mo_poke_13 (by decide) ?_
    refine lv_sipush (v := 255) hx hb zd_Mo_poke_14 (by decide) ?_
    obtain ⟨r5, h13, hf⟩ := Option.bind_eq_some_iff.mp hf
    refine zr_csP (As := [.int x2, .int (0 : Int32), .int (255 : Int32)]) (rest := [.ref (q 0)]) hx hb hml hown hts hl.1 X (zk_Mo_in l D q cI cZ h13) zkw_Mo_in zl_Mo_79 rfl rfl (Nat.le_of_ble_eq_true rfl) ⟨rfl, rfl⟩ ⟨Nat.le_of_ble_eq_true rfl, Nat.le_of_ble_eq_true rfl⟩ zd_Mo_poke_17 (fun H locs X => ?_)
    refine lv_if_eq (tgt := 27) hx hb zd_Mo_poke_20 (by decide) (fun g12 => ?_) (fun g12 => ?_)
    · rw [if_pos g12] at hf
      refine lv_iconst (v := 0) hx hb zd_Mo_poke_27 (by decide) ?_
      obtain ⟨u6, h8, hf⟩ := Option.bind_eq_some_iff.mp hf
      refine zr_cvI (As := [.int (0 : Int32)]) (rest := []) (q0 := 0) (ci := 9) hx hb hml hown hts hl.1 X (zk_Mo_bad l D q cI cZ h8) zkw_Mo_bad zl_Mo_87 rfl rfl (Nat.le_of_ble_eq_true rfl) rfl rfl ⟨rfl, rfl⟩ ⟨Nat.le_of_ble_eq_true rfl, Nat.le_of_ble_eq_true rfl⟩ zd_Mo_poke_28 (fun H locs X => ?_)
      refine lv_if_eq (tgt := 35) hx hb zd_Mo_poke_31 (by decide) (fun g7 => ?_) (fun g7 => ?_)
      · rw [if_pos g7] at hf
        refine lv_aload_n hx hb zd_Mo_poke_35 rfl (lv_at hl 0 rfl) ?_
        refine zg_Mo_memory hx hb hts hown X zd_Mo_poke_36 ?_
        refine lv_iload_n hx hb zd_Mo_poke_39 rfl (lv_at hl 1 rfl) ?_
        refine lv_iload_n hx hb zd_Mo_poke_40 rfl (lv_at hl 2 rfl) ?_
        obtain ⟨hin, hf⟩ := zz_ck_some hf
        refine zs_Mo_memory hx hb X hin zd_Mo_poke_41 (fun H locs X => ?_)
        refine lv_aload_n hx hb zd_Mo_poke_42 rfl (lv_at hl 0 rfl) ?_
        refine zg_Mo_known hx hb hts hown X zd_Mo_poke_43 ?_
        refine lv_iload_n hx hb zd_Mo_poke_46 rfl (lv_at hl 1 rfl) ?_
        refine lv_iconst (v := 1) hx hb zd_Mo_poke_47 (by decide) ?_
        obtain ⟨hin, hf⟩ := zz_ck_some hf
        refine zs_Mo_known hx hb X hin zd_Mo_poke_48 (fun H locs X => ?_)
        exact zr_vret hx hb hr hlocks X (Option.some.inj hf) zd_Mo_poke_49
      · rw [if_neg g7] at hf
        exact zr_vret hx hb hr hlocks X (Option.some.inj hf) zd_Mo_poke_34
    · rw [if_neg g12] at hf
      refine lv_iconst (v := 1) hx hb zd_Mo_poke_23 (by decide) ?_
      refine lv_goto (tgt := 28) hx hb zd_Mo_poke_24 (by decide) ?_
      obtain ⟨u9, h11, hf⟩ := Option.bind_eq_some_iff.mp hf
      refine zr_cvI (As := [.int (1 : Int32)]) (rest := []) (q0 := 0) (ci := 9) hx hb hml hown hts hl.1 X (zk_Mo_bad l D q cI cZ h11) zkw_Mo_bad zl_Mo_87 rfl rfl (Nat.le_of_ble_eq_true rfl) rfl rfl ⟨rfl, rfl⟩ ⟨Nat.le_of_ble_eq_true rfl, Nat.le_of_ble_eq_true rfl⟩ zd_Mo_poke_28 (fun H locs X => ?_)
      refine lv_if_eq (tgt := 35) hx hb zd_Mo_poke_31 (by decide) (fun g10 => ?_) (fun g10 => ?_)
      · rw [if_pos g10] at hf
        refine lv_aload_n hx hb zd_Mo_poke_35 rfl (lv_at hl 0 rfl) ?_
        refine zg_Mo_memory hx hb hts hown X zd_Mo_poke_36 ?_
        refine lv_iload_n hx hb zd_Mo_poke_39 rfl (lv_at hl 1 rfl) ?_
        refine lv_iload_n hx hb zd_Mo_poke_40 rfl (lv_at hl 2 rfl) ?_
        obtain ⟨hin, hf⟩ := zz_ck_some hf
        refine zs_Mo_memory hx hb X hin zd_Mo_poke_41 (fun H locs X => ?_)
        refine lv_aload_n hx hb zd_Mo_poke_42 rfl (lv_at hl 0 rfl) ?_
        refine zg_Mo_known hx hb hts hown X zd_Mo_poke_43 ?_
        refine lv_iload_n hx hb zd_Mo_poke_46 rfl (lv_at hl 1 rfl) ?_
        refine lv_iconst (v := 1) hx hb zd_Mo_poke_47 (by decide) ?_
        obtain ⟨hin, hf⟩ := zz_ck_some hf
        refine zs_Mo_known hx hb X hin zd_Mo_poke_48 (fun H locs X => ?_)
        exact zr_vret hx hb hr hlocks X (Option.some.inj hf) zd_Mo_poke_49
      · rw [if_neg g10] at hf
        exact zr_vret hx hb hr hlocks X (Option.some.inj hf) zd_Mo_poke_34

set_option maxRecDepth 100000 in
set_option maxHeartbeats 4000000 in
theorem zk_Mo_finding (l : Launch) (D : va_G) (q : Nat → Nat) (cI cZ : ClassId) {σ : St} {x1 x2 : Int32} {out : (Int32 × St)} (hf : zf_Mo_finding σ x1 x2 = some out) : zI l D vwCl (zz_tys cI cZ) (wM q cI cZ) zy_Mo_finding (.code zy_Mo_finding zc_Mo_finding 3 (some .int) :: zz_WS) zm_Mo_finding [.ref (q 0), .int x1, .int x2] σ out := by
  refine zI_of (by decide +kernel) (Nat.le_of_ble_eq_true rfl) (fun p e s m below meth c A ls hx hb hml hown hts hr hlocks X hl => ?_)
  have hl : lv_has ls 3 [(0, .ref (q 0)), (1, .int x1), (2, .int x2)] := hl
  unfold zf_Mo_finding at hf
  refine lv_aload_n hx hb zd_Mo_finding_0 rfl (lv_at hl 0 rfl) ?_
  refine lv_iload_n hx hb zd_Mo_finding_1 rfl (lv_at hl 2 rfl) ?_
  refine lv_iconst (v := 0) hx hb zd_Mo_finding_2 (by decide) ?_
  refine lv_iconst (v := 3) hx hb zd_Mo_finding_3 (by decide) ?_
  obtain ⟨r1, h11, hf⟩ := Option.bind_eq_some_iff.mp hf
  refine zr_csP (As := [.int x2, .int (0 : Int32), .int (3 : Int32)]) (rest := [.ref (q 0)]) hx hb hml hown hts hl.1 X (zk_Mo_in l D q cI cZ h11) zkw_Mo_in zl_Mo_79 rfl rfl (Nat.le_of_ble_eq_true rfl) ⟨rfl, rfl⟩ ⟨Nat.le_of_ble_eq_true rfl, Nat.le_of_ble_eq_true rfl⟩ zd_Mo_finding_4 (fun H locs X => ?_)
  obtain ⟨u2, h10, hf⟩ := Option.bind_eq_some_iff.mp hf
  refine zr_cvI (As := [.int r1]) (rest := []) (q0 := 0) (ci := 9) hx hb hml hown hts hl.1 X (zk_Mo_bad l D q cI cZ h10) zkw_Mo_bad zl_Mo_87 rfl rfl (Nat.le_of_ble_eq_true rfl) rfl rfl ⟨rfl, rfl⟩ ⟨Nat.le_of_ble_eq_true rfl, Nat.le_of_ble_eq_true rfl⟩ zd_Mo_finding_7 (fun H locs X => ?_)
  refine lv_if_eq (tgt := 15) hx hb zd_Mo_finding_10 (by decide) (fun g9 => ?_) (fun g9 => ?_)
  · rw [if_pos g9] at hf
    refine lv_iload_n hx hb zd_Mo_finding_15 rfl (lv_at hl 1 rfl) ?_
    refine lv_iconst (v := 0) hx hb zd_Mo_finding_16 (by decide) ?_
    refine lv_aload_n hx hb zd_Mo_finding_17 rfl (lv_at hl 0 rfl) ?_
    refine zg_Mo_findings hx hb hts hown X zd_Mo_finding_18 ?_
    refine lv_iconst (v := 1) hx hb zd_Mo_finding_21 (by decide) ?_
    refine lv_isub hx hb zd_Mo_finding_22 ?_
    obtain ⟨r3, h8, hf⟩ := Option.bind_eq_some_iff.mp hf
    refine zr_csP (As := [.int x1, .int (0 : Int32), .int ((u2.2 23 0) - (1 : Int32))]) (rest := []) hx hb hml hown hts hl.1 X (zk_Mo_in l D q cI cZ h8) zkw_Mo_in zl_Mo_79 rfl rfl (Nat.le_of_ble_eq_true rfl) ⟨rfl, rfl⟩ ⟨Nat.le_of_ble_eq_true rfl, Nat.le_of_ble_eq_true rfl⟩ zd_Mo_finding_23 (fun H locs X => ?_)
    refine lv_if_ne (tgt := 36) hx hb zd_Mo_finding_26 (by decide) (fun g7 => ?_) (fun g7 => ?_)
    · rw [if_neg g7] at hf
      refine lv_iload_n hx hb zd_Mo_finding_36 rfl (lv_at hl 2 rfl) ?_
      refine lv_if_ne (tgt := 49) hx hb zd_Mo_finding_37 (by decide) (fun g6 => ?_) (fun g6 => ?_)
      · rw [if_neg g6] at hf
        refine lv_iload_n hx hb zd_Mo_finding_49 rfl (lv_at hl 2 rfl) ?_
        refine lv_iconst (v := 1) hx hb zd_Mo_finding_50 (by decide) ?_
        refine lv_icmp_ne (tgt := 63) hx hb zd_Mo_finding_51 (by decide) (fun g5 => ?_) (fun g5 => ?_)
        · rw [if_neg g5] at hf
          refine lv_iload_n hx hb zd_Mo_finding_63 rfl (lv_at hl 2 rfl) ?_
          refine lv_iconst (v := 2) hx hb zd_Mo_finding_64 (by decide) ?_
          refine lv_icmp_ne (tgt := 77) hx hb zd_Mo_finding_65 (by decide) (fun g4 => ?_) (fun g4 => ?_)
          · rw [if_neg g4] at hf
            refine lv_aload_n hx hb zd_Mo_finding_77 rfl (lv_at hl 0 rfl) ?_
            refine zg_Mo_often hx hb hts hown X zd_Mo_finding_78 ?_
            refine lv_iload_n hx hb zd_Mo_finding_81 rfl (lv_at hl 1 rfl) ?_
            obtain ⟨hin, hf⟩ := zz_ck_some hf
            refine za_Mo_often hx hb X hin zd_Mo_finding_82 ?_
            exact zr_iret hx hb hr hlocks X (Option.some.inj hf) zd_Mo_finding_83
          · rw [if_pos g4] at hf
            refine lv_aload_n hx hb zd_Mo_finding_68 rfl (lv_at hl 0 rfl) ?_
            refine zg_Mo_where hx hb hts hown X zd_Mo_finding_69 ?_
            refine lv_iload_n hx hb zd_Mo_finding_72 rfl (lv_at hl 1 rfl) ?_
            obtain ⟨hin, hf⟩ := zz_ck_some hf
            refine za_Mo_where hx hb X hin zd_Mo_finding_73 ?_
            refine lv_goto (tgt := 83) hx hb zd_Mo_finding_74 (by decide) ?_
            exact zr_iret hx hb hr hlocks X (Option.some.inj hf) zd_Mo_finding_83
        · rw [if_pos g5] at hf
          refine lv_aload_n hx hb zd_Mo_finding_54 rfl (lv_at hl 0 rfl) ?_
          refine zg_Mo_at hx hb hts hown X zd_Mo_finding_55 ?_
          refine lv_iload_n hx hb zd_Mo_finding_58 rfl (lv_at hl 1 rfl) ?_
          obtain ⟨hin, hf⟩ := zz_ck_some hf
          refine za_Mo_at hx hb X hin zd_Mo_finding_59 ?_
          refine lv_goto (tgt := 83) hx hb zd_Mo_finding_60 (by decide) ?_
          exact zr_iret hx hb hr hlocks X (Option.some.inj hf) zd_Mo_finding_83
      · rw [if_pos g6] at hf
        refine lv_aload_n hx hb zd_Mo_finding_40 rfl (lv_at hl 0 rfl) ?_
        refine zg_Mo_kind hx hb hts hown X zd_Mo_finding_41 ?_
        refine lv_iload_n hx hb zd_Mo_finding_44 rfl (lv_at hl 1 rfl) ?_
        obtain ⟨hin, hf⟩ := zz_ck_some hf
        refine za_Mo_kind hx hb X hin zd_Mo_finding_45 ?_
        refine lv_goto (tgt := 83) hx hb zd_Mo_finding_46 (by decide) ?_
        exact zr_iret hx hb hr hlocks X (Option.some.inj hf) zd_Mo_finding_83
    · rw [if_pos g7] at hf
      refine lv_aload_n hx hb zd_Mo_finding_29 rfl (lv_at hl 0 rfl) ?_
      refine lv_iconst (v := 2) hx hb zd_Mo_finding_30 (by decide) ?_
      refine zp_Mo_thrown hx hb hts hown X zd_Mo_finding_31 (fun H locs X => ?_)
      refine lv_iconst (v := 0) hx hb zd_Mo_finding_34 (by decide) ?_
      exact zr_iret hx hb hr hlocks X (Option.some.inj hf) zd_Mo_finding_35
  · rw [if_neg g9] at hf
    refine lv_iconst (v := 0) hx hb zd_Mo_finding_13 (by decide) ?_
    exact zr_iret hx hb hr hlocks X (Option.some.inj hf) zd_Mo_finding_14

set_option maxRecDepth 100000 in
set_option maxHeartbeats 4000000 in
theorem zw_Mo_block_L17 {p : Program} {l : Launch} {e : Env} {s : State} {m : MethodId} {args : Array Value} {below : List Frame} {meth : Method} {c : Code} {D : va_G} {q : Nat → Nat} {cI cZ : ClassId} {A : Nat → Prop} (hx : p.tables.exec = Jvm.exec) (hb : c.code = zc_Mo_block) (hml : c.maxLocals = 4) (hown : s.vm.findClass zR_Mo = some m.cls) (hts : ∀ w ∈ zz_WS, w.before args s = true) (hr : meth.sig.returnType = (some .int)) (hlocks : meth.locks = false) (out : (Int32 × St)) (kx : St → Int32 → Int32 → Option (Int32 × St)) (hkx : ∀ (σ : St) (x2 x3 : Int32) (H : Heap) (locs : List Loc) (ls : Array Slot), zz_X D vwCl (zz_tys cI cZ) A s H locs ((wM q cI cZ) σ) → lv_has ls 4 [(0, .ref (q 0)), (2, .int x2), (3, .int x3)] → kx σ x2 x3 = some out → W p l e zm_Mo_block s m args below meth c H locs 0 0 (MQ below (zq_I D vwCl (zz_tys cI cZ) (wM q cI cZ) A out) args s 0 0 A) (F0 m 41 ls [])) : ∀ (n : Nat) (σ : St) (x1 x2 x3 : Int32) (H : Heap) (locs : List Loc) (ls : Array Slot), zz_X D vwCl (zz_tys cI cZ) A s H locs ((wM q cI cZ) σ) → lv_has ls 4 [(0, .ref (q 0)), (1, .int x1), (2, .int x2), (3, .int x3)] → zf_Mo_block_L17 kx n σ x1 x2 x3 = some out → W p l e zm_Mo_block s m args below meth c H locs 0 0 (MQ below (zq_I D vwCl (zz_tys cI cZ) (wM q cI cZ) A out) args s 0 0 A) (F0 m 17 ls []) := by
  intro n
  induction n with
  | zero =>
    intro σ x1 x2 x3 H locs ls X hl hf
    exact absurd hf (by simp [zf_Mo_block_L17])
  | succ n ih =>
    intro σ x1 x2 x3 H locs ls X hl hf
    rw [zf_Mo_block_L17] at hf
    refine lv_iload_n hx hb zd_Mo_block_17 rfl (lv_at hl 3 rfl) ?_
    refine lv_aload_n hx hb zd_Mo_block_18 rfl (lv_at hl 0 rfl) ?_
    refine zg_Mo_blocks hx hb hts hown X zd_Mo_block_19 ?_
    refine lv_icmp_ge (tgt := 41) hx hb zd_Mo_block_22 (by decide) (fun g4 => ?_) (fun g4 => ?_)
    · rw [if_pos g4] at hf
      exact hkx σ x2 x3 _ _ _ X (lv_sub hl [0, 2, 3] rfl) hf
    · rw [if_neg g4] at hf
      refine lv_aload_n hx hb zd_Mo_block_25 rfl (lv_at hl 0 rfl) ?_
      refine zg_Mo_number hx hb hts hown X zd_Mo_block_26 ?_
      refine lv_iload_n hx hb zd_Mo_block_29 rfl (lv_at hl 3 rfl) ?_
      obtain ⟨hin, hf⟩ := zz_ck_some hf
      refine za_Mo_number hx hb X hin zd_Mo_block_30 ?_
      refine lv_iload_n hx hb zd_Mo_block_31 rfl (lv_at hl 1 rfl) ?_
      refine lv_icmp_eq (tgt := 41) hx hb zd_Mo_block_32 (by decide) (fun g3 => ?_) (fun g3 => ?_)
      · rw [if_pos g3] at hf
        exact hkx σ x2 x3 _ _ _ X (lv_sub hl [0, 2, 3] rfl) hf
      · rw [if_neg g3] at hf
        refine lv_iinc (v := (x3 + (1 : Int32))) (lv' := [(3, .int (x3 + (1 : Int32))), (0, .ref (q 0)), (1, .int x1), (2, .int x2)]) hx hb zd_Mo_block_35 hl (k := 3) rfl rfl (by decide) rfl (fun ls hl => ?_)
        refine lv_goto (tgt := 17) hx hb zd_Mo_block_38 (by decide) ?_
        exact ih σ x1 x2 (x3 + (1 : Int32)) _ _ _ X (lv_sub hl [1, 2, 3, 0] rfl) hf

set_option maxRecDepth 100000 in
set_option maxHeartbeats 4000000 in
theorem zk_Mo_block (l : Launch) (D : va_G) (q : Nat → Nat) (cI cZ : ClassId) {σ : St} {x1 x2 : Int32} {out : (Int32 × St)} (hf : zf_Mo_block σ x1 x2 = some out) : zI l D vwCl (zz_tys cI cZ) (wM q cI cZ) zy_Mo_block (.code zy_Mo_block zc_Mo_block 4 (some .int) :: zz_WS) zm_Mo_block [.ref (q 0), .int x1, .int x2] σ out := by
  refine zI_of (by decide +kernel) (Nat.le_of_ble_eq_true rfl) (fun p e s m below meth c A ls hx hb hml hown hts hr hlocks X hl => ?_)
  have hl : lv_has ls 4 [(0, .ref (q 0)), (1, .int x1), (2, .int x2)] := hl
  unfold zf_Mo_block at hf
  refine lv_aload_n hx hb zd_Mo_block_0 rfl (lv_at hl 0 rfl) ?_
  refine lv_iload_n hx hb zd_Mo_block_1 rfl (lv_at hl 2 rfl) ?_
  refine lv_iconst (v := 0) hx hb zd_Mo_block_2 (by decide) ?_
  refine lv_iconst (v := 3) hx hb zd_Mo_block_3 (by decide) ?_
  obtain ⟨r1, h15, hf⟩ := Option.bind_eq_some_iff.mp hf
  refine zr_csP (As := [.int x2, .int (0 : Int32), .int (3 : Int32)]) (rest := [.ref (q 0)]) hx hb hml hown hts hl.1 X (zk_Mo_in l D q cI cZ h15) zkw_Mo_in zl_Mo_79 rfl rfl (Nat.le_of_ble_eq_true rfl) ⟨rfl, rfl⟩ ⟨Nat.le_of_ble_eq_true rfl, Nat.le_of_ble_eq_true rfl⟩ zd_Mo_block_4 (fun H locs X => ?_)
  obtain ⟨u2, h14, hf⟩ := Option.bind_eq_some_iff.mp hf
  refine zr_cvI (As := [.int r1]) (rest := []) (q0 := 0) (ci := 9) hx hb hml hown hts hl.1 X (zk_Mo_bad l D q cI cZ h14) zkw_Mo_bad zl_Mo_87 rfl rfl (Nat.le_of_ble_eq_true rfl) rfl rfl ⟨rfl, rfl⟩ ⟨Nat.le_of_ble_eq_true rfl, Nat.le_of_ble_eq_true rfl⟩ zd_Mo_block_7 (fun H locs X => ?_)
  refine lv_if_eq (tgt := 15) hx hb zd_Mo_block_10 (by decide) (fun g13 => ?_) (fun g13 => ?_)
  · rw [if_pos g13] at hf
    refine lv_iconst (v := 0) hx hb zd_Mo_block_15 (by decide) ?_
    refine lv_istore_n (lv' := [(3, .int (0 : Int32)), (0, .ref (q 0)), (1, .int x1), (2, .int x2)]) hx hb zd_Mo_block_16 rfl hl (by decide) rfl (fun ls hl => ?_)
    refine zw_Mo_block_L17 hx hb hml hown hts hr hlocks out _ (fun s5 s5_2 s5_3 H locs ls X hl hf => ?_) 300 u2.2 x1 x2 (0 : Int32) _ _ _ X (lv_sub hl [1, 2, 3, 0] rfl) hf
    refine lv_iload_n hx hb zd_Mo_block_41 rfl (lv_at hl 2 rfl) ?_
    refine lv_aload_n hx hb zd_Mo_block_42 rfl (lv_at hl 0 rfl) ?_
    refine zg_Mo_blocks hx hb hts hown X zd_Mo_block_43 ?_
    refine lv_icmp_ne (tgt := 56) hx hb zd_Mo_block_46 (by decide) (fun g12 => ?_) (fun g12 => ?_)
    · rw [if_neg g12] at hf
      refine lv_aload_n hx hb zd_Mo_block_56 rfl (lv_at hl 0 rfl) ?_
      obtain ⟨u6, h11, hf⟩ := Option.bind_eq_some_iff.mp hf
      refine zr_cvV (As := []) (rest := []) (q0 := 0) (ci := 9) hx hb hml hown hts hl.1 X (zk_Mo_scan l D q cI cZ h11) zkw_Mo_scan zl_Mo_192 rfl rfl (Nat.le_of_ble_eq_true rfl) rfl rfl ⟨rfl, rfl⟩ ⟨Nat.le_of_ble_eq_true rfl, Nat.le_of_ble_eq_true rfl⟩ zd_Mo_block_57 (fun H locs X => ?_)
      refine lv_iload_n hx hb zd_Mo_block_60 rfl (lv_at hl 1 rfl) ?_
      refine lv_if_ne (tgt := 73) hx hb zd_Mo_block_61 (by decide) (fun g10 => ?_) (fun g10 => ?_)
      · rw [if_neg g10] at hf
        refine lv_iload_n hx hb zd_Mo_block_73 rfl (lv_at hl 1 rfl) ?_
        refine lv_iconst (v := 1) hx hb zd_Mo_block_74 (by decide) ?_
        refine lv_icmp_ne (tgt := 87) hx hb zd_Mo_block_75 (by decide) (fun g9 => ?_) (fun g9 => ?_)
        · rw [if_neg g9] at hf
          refine lv_iload_n hx hb zd_Mo_block_87 rfl (lv_at hl 1 rfl) ?_
          refine lv_iconst (v := 2) hx hb zd_Mo_block_88 (by decide) ?_
          refine lv_icmp_ne (tgt := 109) hx hb zd_Mo_block_89 (by decide) (fun g8 => ?_) (fun g8 => ?_)
          · rw [if_neg g8] at hf
            refine lv_aload_n hx hb zd_Mo_block_109 rfl (lv_at hl 0 rfl) ?_
            refine zg_Mo_seen hx hb hts hown X zd_Mo_block_110 ?_
            refine lv_iload_n hx hb zd_Mo_block_113 rfl (lv_at hl 2 rfl) ?_
            obtain ⟨hin, hf⟩ := zz_ck_some hf
            refine za_Mo_seen hx hb X hin zd_Mo_block_114 ?_
            exact zr_iret hx hb hr hlocks X (Option.some.inj hf) zd_Mo_block_115
          · rw [if_pos g8] at hf
            refine lv_aload_n hx hb zd_Mo_block_92 rfl (lv_at hl 0 rfl) ?_
            refine zg_Mo_rests hx hb hts hown X zd_Mo_block_93 ?_
            refine lv_iload_n hx hb zd_Mo_block_96 rfl (lv_at hl 2 rfl) ?_
            obtain ⟨hin, hf⟩ := zz_ck_some hf
            refine za_Mo_rests hx hb X hin zd_Mo_block_97 ?_
            refine lv_if_le (tgt := 105) hx hb zd_Mo_block_98 (by decide) (fun g7 => ?_) (fun g7 => ?_)
            · rw [if_pos g7] at hf
              refine lv_iconst (v := 1) hx hb zd_Mo_block_105 (by decide) ?_
              refine lv_goto (tgt := 115) hx hb zd_Mo_block_106 (by decide) ?_
              exact zr_iret hx hb hr hlocks X (Option.some.inj hf) zd_Mo_block_115
            · rw [if_neg g7] at hf
              refine lv_iconst (v := 2) hx hb zd_Mo_block_101 (by decide) ?_
              refine lv_goto (tgt := 115) hx hb zd_Mo_block_102 (by decide) ?_
              exact zr_iret hx hb hr hlocks X (Option.some.inj hf) zd_Mo_block_115
        · rw [if_pos g9] at hf
          refine lv_aload_n hx hb zd_Mo_block_78 rfl (lv_at hl 0 rfl) ?_
          refine zg_Mo_size hx hb hts hown X zd_Mo_block_79 ?_
          refine lv_iload_n hx hb zd_Mo_block_82 rfl (lv_at hl 2 rfl) ?_
          obtain ⟨hin, hf⟩ := zz_ck_some hf
          refine za_Mo_size hx hb X hin zd_Mo_block_83 ?_
          refine lv_goto (tgt := 115) hx hb zd_Mo_block_84 (by decide) ?_
          exact zr_iret hx hb hr hlocks X (Option.some.inj hf) zd_Mo_block_115
      · rw [if_pos g10] at hf
        refine lv_aload_n hx hb zd_Mo_block_64 rfl (lv_at hl 0 rfl) ?_
        refine zg_Mo_address hx hb hts hown X zd_Mo_block_65 ?_
        refine lv_iload_n hx hb zd_Mo_block_68 rfl (lv_at hl 2 rfl) ?_
        obtain ⟨hin, hf⟩ := zz_ck_some hf
        refine za_Mo_address hx hb X hin zd_Mo_block_69 ?_
        refine lv_goto (tgt := 115) hx hb zd_Mo_block_70 (by decide) ?_
        exact zr_iret hx hb hr hlocks X (Option.some.inj hf) zd_Mo_block_115
    · rw [if_pos g12] at hf
      refine lv_aload_n hx hb zd_Mo_block_49 rfl (lv_at hl 0 rfl) ?_
      refine lv_iconst (v := 2) hx hb zd_Mo_block_50 (by decide) ?_
      refine zp_Mo_thrown hx hb hts hown X zd_Mo_block_51 (fun H locs X => ?_)
      refine lv_iconst (v := 0) hx hb zd_Mo_block_54 (by decide) ?_
      exact zr_iret hx hb hr hlocks X (Option.some.inj hf) zd_Mo_block_55
  · rw [if_neg g13] at hf
    refine lv_iconst (v := 0) hx hb zd_Mo_block_13 (by decide) ?_
    exact zr_iret hx hb hr hlocks X (Option.some.inj hf) zd_Mo_block_14

set_option maxRecDepth 100000 in
set_option maxHeartbeats 4000000 in
theorem zw_Mo_leaks_L23 {p : Program} {l : Launch} {e : Env} {s : State} {m : MethodId} {args : Array Value} {below : List Frame} {meth : Method} {c : Code} {D : va_G} {q : Nat → Nat} {cI cZ : ClassId} {A : Nat → Prop} (hx : p.tables.exec = Jvm.exec) (hb : c.code = zc_Mo_leaks) (hml : c.maxLocals = 4) (hown : s.vm.findClass zR_Mo = some m.cls) (hts : ∀ w ∈ zz_WS, w.before args s = true) (hr : meth.sig.returnType = (some .int)) (hlocks : meth.locks = false) (out : (Int32 × St)) (kx : St → Int32 → Option (Int32 × St)) (hkx : ∀ (σ : St) (x2 : Int32) (H : Heap) (locs : List Loc) (ls : Array Slot), zz_X D vwCl (zz_tys cI cZ) A s H locs ((wM q cI cZ) σ) → lv_has ls 4 [(2, .int x2)] → kx σ x2 = some out → W p l e zm_Mo_leaks s m args below meth c H locs 0 0 (MQ below (zq_I D vwCl (zz_tys cI cZ) (wM q cI cZ) A out) args s 0 0 A) (F0 m 59 ls [])) : ∀ (n : Nat) (σ : St) (x1 x2 x3 : Int32) (H : Heap) (locs : List Loc) (ls : Array Slot), zz_X D vwCl (zz_tys cI cZ) A s H locs ((wM q cI cZ) σ) → lv_has ls 4 [(0, .ref (q 0)), (1, .int x1), (2, .int x2), (3, .int x3)] → zf_Mo_leaks_L23 kx n σ x1 x2 x3 = some out → W p l e zm_Mo_leaks s m args below meth c H locs 0 0 (MQ below (zq_I D vwCl (zz_tys cI cZ) (wM q cI cZ) A out) args s 0 0 A) (F0 m 23 ls []) := by
  intro n
  induction n with
  | zero =>
    intro σ x1 x2 x3 H locs ls X hl hf
    exact absurd hf (by simp [zf_Mo_leaks_L23])
  | succ n ih =>
    intro σ x1 x2 x3 H locs ls X hl hf
    rw [zf_Mo_leaks_L23] at hf
    refine lv_iload_n hx hb zd_Mo_leaks_23 rfl (lv_at hl 3 rfl) ?_
    refine lv_aload_n hx hb zd_Mo_leaks_24 rfl (lv_at hl 0 rfl) ?_
    refine zg_Mo_blocks hx hb hts hown X zd_Mo_leaks_25 ?_
    refine lv_icmp_ge (tgt := 59) hx hb zd_Mo_leaks_28 (by decide) (fun g6 => ?_) (fun g6 => ?_)
    · rw [if_pos g6] at hf
      exact hkx σ x2 _ _ _ X (lv_sub hl [2] rfl) hf
    · rw [if_neg g6] at hf
      refine lv_aload_n hx hb zd_Mo_leaks_31 rfl (lv_at hl 0 rfl) ?_
      refine zg_Mo_rests hx hb hts hown X zd_Mo_leaks_32 ?_
      refine lv_iload_n hx hb zd_Mo_leaks_35 rfl (lv_at hl 3 rfl) ?_
      obtain ⟨hin, hf⟩ := zz_ck_some hf
      refine za_Mo_rests hx hb X hin zd_Mo_leaks_36 ?_
      refine lv_if_ne (tgt := 53) hx hb zd_Mo_leaks_37 (by decide) (fun g5 => ?_) (fun g5 => ?_)
      · rw [if_neg g5] at hf
        refine lv_iinc (v := (x3 + (1 : Int32))) (lv' := [(3, .int (x3 + (1 : Int32))), (0, .ref (q 0)), (1, .int x1), (2, .int x2)]) hx hb zd_Mo_leaks_53 hl (k := 3) rfl rfl (by decide) rfl (fun ls hl => ?_)
        refine lv_goto (tgt := 23) hx hb zd_Mo_leaks_56 (by decide) ?_
        exact ih σ x1 x2 (x3 + (1 : Int32)) _ _ _ X (lv_sub hl [1, 2, 3, 0] rfl) hf
      · rw [if_pos g5] at hf
        refine lv_aload_n hx hb zd_Mo_leaks_40 rfl (lv_at hl 0 rfl) ?_
        refine zg_Mo_seen hx hb hts hown X zd_Mo_leaks_41 ?_
        refine lv_iload_n hx hb zd_Mo_leaks_44 rfl (lv_at hl 3 rfl) ?_
        obtain ⟨hin, hf⟩ := zz_ck_some hf
        refine za_Mo_seen hx hb X hin zd_Mo_leaks_45 ?_
        refine lv_iload_n hx hb zd_Mo_leaks_46 rfl (lv_at hl 1 rfl) ?_
        refine lv_icmp_ne (tgt := 53) hx hb zd_Mo_leaks_47 (by decide) (fun g4 => ?_) (fun g4 => ?_)
        · rw [if_neg g4] at hf
          refine lv_iinc (v := (x3 + (1 : Int32))) (lv' := [(3, .int (x3 + (1 : Int32))), (0, .ref (q 0)), (1, .int x1), (2, .int x2)]) hx hb zd_Mo_leaks_53 hl (k := 3) rfl rfl (by decide) rfl (fun ls hl => ?_)
          refine lv_goto (tgt := 23) hx hb zd_Mo_leaks_56 (by decide) ?_
          exact ih σ x1 x2 (x3 + (1 : Int32)) _ _ _ X (lv_sub hl [1, 2, 3, 0] rfl) hf
        · rw [if_pos g4] at hf
          refine lv_iinc (v := (x2 + (1 : Int32))) (lv' := [(2, .int (x2 + (1 : Int32))), (0, .ref (q 0)), (1, .int x1), (3, .int x3)]) hx hb zd_Mo_leaks_50 hl (k := 2) rfl rfl (by decide) rfl (fun ls hl => ?_)
          refine lv_iinc (v := (x3 + (1 : Int32))) (lv' := [(3, .int (x3 + (1 : Int32))), (2, .int (x2 + (1 : Int32))), (0, .ref (q 0)), (1, .int x1)]) hx hb zd_Mo_leaks_53 hl (k := 3) rfl rfl (by decide) rfl (fun ls hl => ?_)
          refine lv_goto (tgt := 23) hx hb zd_Mo_leaks_56 (by decide) ?_
          exact ih σ x1 (x2 + (1 : Int32)) (x3 + (1 : Int32)) _ _ _ X (lv_sub hl [2, 3, 1, 0] rfl) hf

set_option maxRecDepth 100000 in
set_option maxHeartbeats 4000000 in
theorem zk_Mo_leaks (l : Launch) (D : va_G) (q : Nat → Nat) (cI cZ : ClassId) {σ : St} {x1 : Int32} {out : (Int32 × St)} (hf : zf_Mo_leaks σ x1 = some out) : zI l D vwCl (zz_tys cI cZ) (wM q cI cZ) zy_Mo_leaks (.code zy_Mo_leaks zc_Mo_leaks 4 (some .int) :: zz_WS) zm_Mo_leaks [.ref (q 0), .int x1] σ out := by
  refine zI_of (by decide +kernel) (Nat.le_of_ble_eq_true rfl) (fun p e s m below meth c A ls hx hb hml hown hts hr hlocks X hl => ?_)
  have hl : lv_has ls 4 [(0, .ref (q 0)), (1, .int x1)] := hl
  unfold zf_Mo_leaks at hf
  refine lv_aload_n hx hb zd_Mo_leaks_0 rfl (lv_at hl 0 rfl) ?_
  refine lv_iload_n hx hb zd_Mo_leaks_1 rfl (lv_at hl 1 rfl) ?_
  refine lv_iconst (v := 1) hx hb zd_Mo_leaks_2 (by decide) ?_
  refine lv_iconst (v := 4) hx hb zd_Mo_leaks_3 (by decide) ?_
  obtain ⟨r1, h11, hf⟩ := Option.bind_eq_some_iff.mp hf
  refine zr_csP (As := [.int x1, .int (1 : Int32), .int (4 : Int32)]) (rest := [.ref (q 0)]) hx hb hml hown hts hl.1 X (zk_Mo_in l D q cI cZ h11) zkw_Mo_in zl_Mo_79 rfl rfl (Nat.le_of_ble_eq_true rfl) ⟨rfl, rfl⟩ ⟨Nat.le_of_ble_eq_true rfl, Nat.le_of_ble_eq_true rfl⟩ zd_Mo_leaks_4 (fun H locs X => ?_)
  obtain ⟨u2, h10, hf⟩ := Option.bind_eq_some_iff.mp hf
  refine zr_cvI (As := [.int r1]) (rest := []) (q0 := 0) (ci := 9) hx hb hml hown hts hl.1 X (zk_Mo_bad l D q cI cZ h10) zkw_Mo_bad zl_Mo_87 rfl rfl (Nat.le_of_ble_eq_true rfl) rfl rfl ⟨rfl, rfl⟩ ⟨Nat.le_of_ble_eq_true rfl, Nat.le_of_ble_eq_true rfl⟩ zd_Mo_leaks_7 (fun H locs X => ?_)
  refine lv_if_eq (tgt := 15) hx hb zd_Mo_leaks_10 (by decide) (fun g9 => ?_) (fun g9 => ?_)
  · rw [if_pos g9] at hf
    refine lv_aload_n hx hb zd_Mo_leaks_15 rfl (lv_at hl 0 rfl) ?_
    obtain ⟨u3, h8, hf⟩ := Option.bind_eq_some_iff.mp hf
    refine zr_cvV (As := []) (rest := []) (q0 := 0) (ci := 9) hx hb hml hown hts hl.1 X (zk_Mo_scan l D q cI cZ h8) zkw_Mo_scan zl_Mo_192 rfl rfl (Nat.le_of_ble_eq_true rfl) rfl rfl ⟨rfl, rfl⟩ ⟨Nat.le_of_ble_eq_true rfl, Nat.le_of_ble_eq_true rfl⟩ zd_Mo_leaks_16 (fun H locs X => ?_)
    refine lv_iconst (v := 0) hx hb zd_Mo_leaks_19 (by decide) ?_
    refine lv_istore_n (lv' := [(2, .int (0 : Int32)), (0, .ref (q 0)), (1, .int x1)]) hx hb zd_Mo_leaks_20 rfl hl (by decide) rfl (fun ls hl => ?_)
    refine lv_iconst (v := 0) hx hb zd_Mo_leaks_21 (by decide) ?_
    refine lv_istore_n (lv' := [(3, .int (0 : Int32)), (2, .int (0 : Int32)), (0, .ref (q 0)), (1, .int x1)]) hx hb zd_Mo_leaks_22 rfl hl (by decide) rfl (fun ls hl => ?_)
    refine zw_Mo_leaks_L23 hx hb hml hown hts hr hlocks out _ (fun s7 s7_2 H locs ls X hl hf => ?_) 300 u3 x1 (0 : Int32) (0 : Int32) _ _ _ X (lv_sub hl [2, 3, 1, 0] rfl) hf
    refine lv_iload_n hx hb zd_Mo_leaks_59 rfl (lv_at hl 0 rfl) ?_
    exact zr_iret hx hb hr hlocks X (Option.some.inj hf) zd_Mo_leaks_60
  · rw [if_neg g9] at hf
    refine lv_iconst (v := 0) hx hb zd_Mo_leaks_13 (by decide) ?_
    exact zr_iret hx hb hr hlocks X (Option.some.inj hf) zd_Mo_leaks_14

set_option maxRecDepth 100000 in
set_option maxHeartbeats 4000000 in
theorem zw_Mo_count_L12 {p : Program} {l : Launch} {e : Env} {s : State} {m : MethodId} {args : Array Value} {below : List Frame} {meth : Method} {c : Code} {D : va_G} {q : Nat → Nat} {cI cZ : ClassId} {A : Nat → Prop} (hx : p.tables.exec = Jvm.exec) (hb : c.code = zc_Mo_count) (hml : c.maxLocals = 5) (hown : s.vm.findClass zR_Mo = some m.cls) (hts : ∀ w ∈ zz_WS, w.before args s = true) (hr : meth.sig.returnType = (some .int)) (hlocks : meth.locks = false) (out : (Int32 × St)) (kx : St → Int32 → Int32 → Int32 → Option (Int32 × St)) (hkx : ∀ (σ : St) (x1 x2 x3 : Int32) (H : Heap) (locs : List Loc) (ls : Array Slot), zz_X D vwCl (zz_tys cI cZ) A s H locs ((wM q cI cZ) σ) → lv_has ls 5 [(0, .ref (q 0)), (1, .int x1), (2, .int x2), (3, .int x3)] → kx σ x1 x2 x3 = some out → W p l e zm_Mo_count s m args below meth c H locs 0 0 (MQ below (zq_I D vwCl (zz_tys cI cZ) (wM q cI cZ) A out) args s 0 0 A) (F0 m 37 ls [])) : ∀ (n : Nat) (σ : St) (x1 x2 x3 x4 : Int32) (H : Heap) (locs : List Loc) (ls : Array Slot), zz_X D vwCl (zz_tys cI cZ) A s H locs ((wM q cI cZ) σ) → lv_has ls 5 [(0, .ref (q 0)), (1, .int x1), (2, .int x2), (3, .int x3), (4, .int x4)] → zf_Mo_count_L12 kx n σ x1 x2 x3 x4 = some out → W p l e zm_Mo_count s m args below meth c H locs 0 0 (MQ below (zq_I D vwCl (zz_tys cI cZ) (wM q cI cZ) A out) args s 0 0 A) (F0 m 12 ls []) := by
  intro n
  induction n with
  | zero =>
    intro σ x1 x2 x3 x4 H locs ls X hl hf
    exact absurd hf (by simp [zf_Mo_count_L12])
  | succ n ih =>
    intro σ x1 x2 x3 x4 H locs ls X hl hf
    rw [zf_Mo_count_L12] at hf
    refine lv_iload hx hb zd_Mo_count_12 (lv_at hl 4 rfl) ?_
    refine lv_aload_n hx hb zd_Mo_count_14 rfl (lv_at hl 0 rfl) ?_
    refine zg_Mo_findings hx hb hts hown X zd_Mo_count_15 ?_
    refine lv_icmp_ge (tgt := 37) hx hb zd_Mo_count_18 (by decide) (fun g1 => ?_) (fun g1 => ?_)
    · rw [if_pos g1] at hf
      exact hkx σ x1 x2 x3 _ _ _ X (lv_sub hl [0, 1, 2, 3] rfl) hf
    · rw [if_neg g1] at hf
      refine lv_iload_n hx hb zd_Mo_count_21 rfl (lv_at hl 2 rfl) ?_
      refine lv_aload_n hx hb zd_Mo_count_22 rfl (lv_at hl 0 rfl) ?_
      refine zg_Mo_often hx hb hts hown X zd_Mo_count_23 ?_
      refine lv_iload hx hb zd_Mo_count_26 (lv_at hl 4 rfl) ?_
      obtain ⟨hin, hf⟩ := zz_ck_some hf
      refine za_Mo_often hx hb X hin zd_Mo_count_28 ?_
      refine lv_iadd hx hb zd_Mo_count_29 ?_
      refine lv_istore_n (lv' := [(2, .int (x2 + (σ 18 x4.toNatClampNeg))), (0, .ref (q 0)), (1, .int x1), (3, .int x3), (4, .int x4)]) hx hb zd_Mo_count_30 rfl hl (by decide) rfl (fun ls hl => ?_)
      refine lv_iinc (v := (x4 + (1 : Int32))) (lv' := [(4, .int (x4 + (1 : Int32))), (2, .int (x2 + (σ 18 x4.toNatClampNeg))), (0, .ref (q 0)), (1, .int x1), (3, .int x3)]) hx hb zd_Mo_count_31 hl (k := 4) rfl rfl (by decide) rfl (fun ls hl => ?_)
      refine lv_goto (tgt := 12) hx hb zd_Mo_count_34 (by decide) ?_
      exact ih σ x1 (x2 + (σ 18 x4.toNatClampNeg)) x3 (x4 + (1 : Int32)) _ _ _ X (lv_sub hl [2, 3, 1, 4, 0] rfl) hf

set_option maxRecDepth 100000 in
set_option maxHeartbeats 4000000 in
theorem zw_Mo_count_L40 {p : Program} {l : Launch} {e : Env} {s : State} {m : MethodId} {args : Array Value} {below : List Frame} {meth : Method} {c : Code} {D : va_G} {q : Nat → Nat} {cI cZ : ClassId} {A : Nat → Prop} (hx : p.tables.exec = Jvm.exec) (hb : c.code = zc_Mo_count) (hml : c.maxLocals = 5) (hown : s.vm.findClass zR_Mo = some m.cls) (hts : ∀ w ∈ zz_WS, w.before args s = true) (hr : meth.sig.returnType = (some .int)) (hlocks : meth.locks = false) (out : (Int32 × St)) (kx : St → Int32 → Int32 → Int32 → Option (Int32 × St)) (hkx : ∀ (σ : St) (x1 x2 x3 : Int32) (H : Heap) (locs : List Loc) (ls : Array Slot), zz_X D vwCl (zz_tys cI cZ) A s H locs ((wM q cI cZ) σ) → lv_has ls 5 [(0, .ref (q 0)), (1, .int x1), (2, .int x2), (3, .int x3)] → kx σ x1 x2 x3 = some out → W p l e zm_Mo_count s m args below meth c H locs 0 0 (MQ below (zq_I D vwCl (zz_tys cI cZ) (wM q cI cZ) A out) args s 0 0 A) (F0 m 66 ls [])) : ∀ (n : Nat) (σ : St) (x1 x2 x3 x4 : Int32) (H : Heap) (locs : List Loc) (ls : Array Slot), zz_X D vwCl (zz_tys cI cZ) A s H locs ((wM q cI cZ) σ) → lv_has ls 5 [(0, .ref (q 0)), (1, .int x1), (2, .int x2), (3, .int x3), (4, .int x4)] → zf_Mo_count_L40 kx n σ x1 x2 x3 x4 = some out → W p l e zm_Mo_count s m args below meth c H locs 0 0 (MQ below (zq_I D vwCl (zz_tys cI cZ) (wM q cI cZ) A out) args s 0 0 A) (F0 m 40 ls []) := by
  intro n
  induction n with
  | zero =>
    intro σ x1 x2 x3 x4 H locs ls X hl hf
    exact absurd hf (by simp [zf_Mo_count_L40])
  | succ n ih =>
    intro σ x1 x2 x3 x4 H locs ls X hl hf
    rw [zf_Mo_count_L40] at hf
    refine lv_iload hx hb zd_Mo_count_40 (lv_at hl 4 rfl) ?_
    refine lv_bipush (v := 32) hx hb zd_Mo_count_42 (by decide) ?_
    refine lv_icmp_ge (tgt := 66) hx hb zd_Mo_count_44 (by decide) (fun g4 => ?_) (fun g4 => ?_)
    · rw [if_pos g4] at hf
      exact hkx σ x1 x2 x3 _ _ _ X (lv_sub hl [0, 1, 2, 3] rfl) hf
    · rw [if_neg g4] at hf
      refine lv_aload_n hx hb zd_Mo_count_47 rfl (lv_at hl 0 rfl) ?_
      refine zg_Mo_piece hx hb hts hown X zd_Mo_count_48 ?_
      refine lv_iload hx hb zd_Mo_count_51 (lv_at hl 4 rfl) ?_
      obtain ⟨hin, hf⟩ := zz_ck_some hf
      refine za_Mo_piece hx hb X hin zd_Mo_count_53 ?_
      refine lv_if_eq (tgt := 60) hx hb zd_Mo_count_54 (by decide) (fun g3 => ?_) (fun g3 => ?_)
      · rw [if_pos g3] at hf
        refine lv_iinc (v := (x4 + (1 : Int32))) (lv' := [(4, .int (x4 + (1 : Int32))), (0, .ref (q 0)), (1, .int x1), (2, .int x2), (3, .int x3)]) hx hb zd_Mo_count_60 hl (k := 4) rfl rfl (by decide) rfl (fun ls hl => ?_)
        refine lv_goto (tgt := 40) hx hb zd_Mo_count_63 (by decide) ?_
        exact ih σ x1 x2 x3 (x4 + (1 : Int32)) _ _ _ X (lv_sub hl [1, 2, 3, 4, 0] rfl) hf
      · rw [if_neg g3] at hf
        refine lv_iinc (v := (x3 + (1 : Int32))) (lv' := [(3, .int (x3 + (1 : Int32))), (0, .ref (q 0)), (1, .int x1), (2, .int x2), (4, .int x4)]) hx hb zd_Mo_count_57 hl (k := 3) rfl rfl (by decide) rfl (fun ls hl => ?_)
        refine lv_iinc (v := (x4 + (1 : Int32))) (lv' := [(4, .int (x4 + (1 : Int32))), (3, .int (x3 + (1 : Int32))), (0, .ref (q 0)), (1, .int x1), (2, .int x2)]) hx hb zd_Mo_count_60 hl (k := 4) rfl rfl (by decide) rfl (fun ls hl => ?_)
        refine lv_goto (tgt := 40) hx hb zd_Mo_count_63 (by decide) ?_
        exact ih σ x1 x2 (x3 + (1 : Int32)) (x4 + (1 : Int32)) _ _ _ X (lv_sub hl [2, 3, 4, 1, 0] rfl) hf

set_option maxRecDepth 100000 in
set_option maxHeartbeats 4000000 in
theorem zk_Mo_count (l : Launch) (D : va_G) (q : Nat → Nat) (cI cZ : ClassId) {σ : St} {x1 : Int32} {out : (Int32 × St)} (hf : zf_Mo_count σ x1 = some out) : zI l D vwCl (zz_tys cI cZ) (wM q cI cZ) zy_Mo_count (.code zy_Mo_count zc_Mo_count 5 (some .int) :: zz_WS) zm_Mo_count [.ref (q 0), .int x1] σ out := by
  refine zI_of (by decide +kernel) (Nat.le_of_ble_eq_true rfl) (fun p e s m below meth c A ls hx hb hml hown hts hr hlocks X hl => ?_)
  have hl : lv_has ls 5 [(0, .ref (q 0)), (1, .int x1)] := hl
  unfold zf_Mo_count at hf
  refine lv_aload_n hx hb zd_Mo_count_0 rfl (lv_at hl 0 rfl) ?_
  refine lv_iconst (v := 0) hx hb zd_Mo_count_1 (by decide) ?_
  refine zp_Mo_thrown hx hb hts hown X zd_Mo_count_2 (fun H locs X => ?_)
  refine lv_iconst (v := 0) hx hb zd_Mo_count_5 (by decide) ?_
  refine lv_istore_n (lv' := [(2, .int (0 : Int32)), (0, .ref (q 0)), (1, .int x1)]) hx hb zd_Mo_count_6 rfl hl (by decide) rfl (fun ls hl => ?_)
  refine lv_iconst (v := 0) hx hb zd_Mo_count_7 (by decide) ?_
  refine lv_istore_n (lv' := [(3, .int (0 : Int32)), (2, .int (0 : Int32)), (0, .ref (q 0)), (1, .int x1)]) hx hb zd_Mo_count_8 rfl hl (by decide) rfl (fun ls hl => ?_)
  refine lv_iconst (v := 0) hx hb zd_Mo_count_9 (by decide) ?_
  refine lv_istore (lv' := [(4, .int (0 : Int32)), (3, .int (0 : Int32)), (2, .int (0 : Int32)), (0, .ref (q 0)), (1, .int x1)]) hx hb zd_Mo_count_10 hl (by decide) rfl (fun ls hl => ?_)
  refine zw_Mo_count_L12 hx hb hml hown hts hr hlocks out _ (fun s2 s2_1 s2_2 s2_3 H locs ls X hl hf => ?_) 300 (zz_put σ 27 0 (0 : Int32)) x1 (0 : Int32) (0 : Int32) (0 : Int32) _ _ _ X (lv_sub hl [3, 4, 2, 1, 0] rfl) hf
  refine lv_iconst (v := 0) hx hb zd_Mo_count_37 (by decide) ?_
  refine lv_istore (lv' := [(4, .int (0 : Int32)), (0, .ref (q 0)), (1, .int s2_1), (2, .int s2_2), (3, .int s2_3)]) hx hb zd_Mo_count_38 hl (by decide) rfl (fun ls hl => ?_)
  refine zw_Mo_count_L40 hx hb hml hown hts hr hlocks out _ (fun s5 s5_1 s5_2 s5_3 H locs ls X hl hf => ?_) 300 s2 s2_1 s2_2 s2_3 (0 : Int32) _ _ _ X (lv_sub hl [1, 2, 3, 4, 0] rfl) hf
  refine lv_iload_n hx hb zd_Mo_count_66 rfl (lv_at hl 1 rfl) ?_
  by_cases g11 : s5_1 = (0 : Int32)
  · rw [if_pos g11] at hf
    refine lv_tableIn (tgt := 120) hx hb zd_Mo_count_67 (by rw [g11]; decide) (by rw [g11]; decide) (by rw [g11]; rfl) (by decide) ?_
    refine lv_aload_n hx hb zd_Mo_count_120 rfl (lv_at hl 0 rfl) ?_
    refine zg_Mo_place hx hb hts hown X zd_Mo_count_121 ?_
    exact zr_iret hx hb hr hlocks X (Option.some.inj hf) zd_Mo_count_124
  · rw [if_neg g11] at hf
    by_cases g12 : s5_1 = (1 : Int32)
    · rw [if_pos g12] at hf
      refine lv_tableIn (tgt := 125) hx hb zd_Mo_count_67 (by rw [g12]; decide) (by rw [g12]; decide) (by rw [g12]; rfl) (by decide) ?_
      refine lv_aload_n hx hb zd_Mo_count_125 rfl (lv_at hl 0 rfl) ?_
      refine zg_Mo_stopped hx hb hts hown X zd_Mo_count_126 ?_
      refine lv_if_eq (tgt := 136) hx hb zd_Mo_count_129 (by decide) (fun g10 => ?_) (fun g10 => ?_)
      · rw [if_pos g10] at hf
        refine lv_iconst (v := 0) hx hb zd_Mo_count_136 (by decide) ?_
        exact zr_iret hx hb hr hlocks X (Option.some.inj hf) zd_Mo_count_137
      · rw [if_neg g10] at hf
        refine lv_iconst (v := 1) hx hb zd_Mo_count_132 (by decide) ?_
        refine lv_goto (tgt := 137) hx hb zd_Mo_count_133 (by decide) ?_
        exact zr_iret hx hb hr hlocks X (Option.some.inj hf) zd_Mo_count_137
    · rw [if_neg g12] at hf
      by_cases g13 : s5_1 = (2 : Int32)
      · rw [if_pos g13] at hf
        refine lv_tableIn (tgt := 138) hx hb zd_Mo_count_67 (by rw [g13]; decide) (by rw [g13]; decide) (by rw [g13]; rfl) (by decide) ?_
        refine lv_aload_n hx hb zd_Mo_count_138 rfl (lv_at hl 0 rfl) ?_
        refine zg_Mo_done hx hb hts hown X zd_Mo_count_139 ?_
        exact zr_iret hx hb hr hlocks X (Option.some.inj hf) zd_Mo_count_142
      · rw [if_neg g13] at hf
        by_cases g14 : s5_1 = (3 : Int32)
        · rw [if_pos g14] at hf
          refine lv_tableIn (tgt := 143) hx hb zd_Mo_count_67 (by rw [g14]; decide) (by rw [g14]; decide) (by rw [g14]; rfl) (by decide) ?_
          refine lv_aload_n hx hb zd_Mo_count_143 rfl (lv_at hl 0 rfl) ?_
          refine zg_Mo_findings hx hb hts hown X zd_Mo_count_144 ?_
          exact zr_iret hx hb hr hlocks X (Option.some.inj hf) zd_Mo_count_147
        · rw [if_neg g14] at hf
          by_cases g15 : s5_1 = (4 : Int32)
          · rw [if_pos g15] at hf
            refine lv_tableIn (tgt := 148) hx hb zd_Mo_count_67 (by rw [g15]; decide) (by rw [g15]; decide) (by rw [g15]; rfl) (by decide) ?_
            refine lv_iload_n hx hb zd_Mo_count_148 rfl (lv_at hl 2 rfl) ?_
            exact zr_iret hx hb hr hlocks X (Option.some.inj hf) zd_Mo_count_149
          · rw [if_neg g15] at hf
            by_cases g16 : s5_1 = (5 : Int32)
            · rw [if_pos g16] at hf
              refine lv_tableIn (tgt := 150) hx hb zd_Mo_count_67 (by rw [g16]; decide) (by rw [g16]; decide) (by rw [g16]; rfl) (by decide) ?_
              refine lv_aload_n hx hb zd_Mo_count_150 rfl (lv_at hl 0 rfl) ?_
              refine zg_Mo_blocks hx hb hts hown X zd_Mo_count_151 ?_
              refine lv_aload_n hx hb zd_Mo_count_154 rfl (lv_at hl 0 rfl) ?_
              obtain ⟨r8, h9, hf⟩ := Option.bind_eq_some_iff.mp hf
              refine zr_cvP (As := []) (rest := [.int (s5 20 0)]) (q0 := 0) (ci := 9) hx hb hml hown hts hl.1 X (zk_Mo_resting l D q cI cZ h9) zkw_Mo_resting zl_Mo_144 rfl rfl (Nat.le_of_ble_eq_true rfl) rfl rfl ⟨rfl, rfl⟩ ⟨Nat.le_of_ble_eq_true rfl, Nat.le_of_ble_eq_true rfl⟩ zd_Mo_count_155 (fun H locs X => ?_)
              refine lv_isub hx hb zd_Mo_count_158 ?_
              exact zr_iret hx hb hr hlocks X (Option.some.inj hf) zd_Mo_count_159
            · rw [if_neg g16] at hf
              by_cases g17 : s5_1 = (6 : Int32)
              · rw [if_pos g17] at hf
                refine lv_tableIn (tgt := 160) hx hb zd_Mo_count_67 (by rw [g17]; decide) (by rw [g17]; decide) (by rw [g17]; rfl) (by decide) ?_
                refine lv_aload_n hx hb zd_Mo_count_160 rfl (lv_at hl 0 rfl) ?_
                obtain ⟨r6, h7, hf⟩ := Option.bind_eq_some_iff.mp hf
                refine zr_cvP (As := []) (rest := []) (q0 := 0) (ci := 9) hx hb hml hown hts hl.1 X (zk_Mo_resting l D q cI cZ h7) zkw_Mo_resting zl_Mo_144 rfl rfl (Nat.le_of_ble_eq_true rfl) rfl rfl ⟨rfl, rfl⟩ ⟨Nat.le_of_ble_eq_true rfl, Nat.le_of_ble_eq_true rfl⟩ zd_Mo_count_161 (fun H locs X => ?_)
                exact zr_iret hx hb hr hlocks X (Option.some.inj hf) zd_Mo_count_164
              · rw [if_neg g17] at hf
                by_cases g18 : s5_1 = (7 : Int32)
                · rw [if_pos g18] at hf
                  refine lv_tableIn (tgt := 165) hx hb zd_Mo_count_67 (by rw [g18]; decide) (by rw [g18]; decide) (by rw [g18]; rfl) (by decide) ?_
                  refine lv_aload_n hx hb zd_Mo_count_165 rfl (lv_at hl 0 rfl) ?_
                  refine zg_Mo_got hx hb hts hown X zd_Mo_count_166 ?_
                  exact zr_iret hx hb hr hlocks X (Option.some.inj hf) zd_Mo_count_169
                · rw [if_neg g18] at hf
                  by_cases g19 : s5_1 = (8 : Int32)
                  · rw [if_pos g19] at hf
                    refine lv_tableIn (tgt := 170) hx hb zd_Mo_count_67 (by rw [g19]; decide) (by rw [g19]; decide) (by rw [g19]; rfl) (by decide) ?_
                    refine lv_aload_n hx hb zd_Mo_count_170 rfl (lv_at hl 0 rfl) ?_
                    refine zg_Mo_translated hx hb hts hown X zd_Mo_count_171 ?_
                    exact zr_iret hx hb hr hlocks X (Option.some.inj hf) zd_Mo_count_174
                  · rw [if_neg g19] at hf
                    by_cases g20 : s5_1 = (9 : Int32)
                    · rw [if_pos g20] at hf
                      refine lv_tableIn (tgt := 175) hx hb zd_Mo_count_67 (by rw [g20]; decide) (by rw [g20]; decide) (by rw [g20]; rfl) (by decide) ?_
                      refine lv_iload_n hx hb zd_Mo_count_175 rfl (lv_at hl 3 rfl) ?_
                      exact zr_iret hx hb hr hlocks X (Option.some.inj hf) zd_Mo_count_176
                    · rw [if_neg g20] at hf
                      refine lv_tableOut (tgt := 177) hx hb zd_Mo_count_67 (zz_out (fun k h1 h2 => ?_)) (by decide) ?_
                      · have : k = 0 ∨ k = 1 ∨ k = 2 ∨ k = 3 ∨ k = 4 ∨ k = 5 ∨ k = 6 ∨ k = 7 ∨ k = 8 ∨ k = 9 := by omega
                        rcases this with rfl | rfl | rfl | rfl | rfl | rfl | rfl | rfl | rfl | rfl
                        · exact fun hx => g11 (hx.trans (by decide))
                        · exact fun hx => g12 (hx.trans (by decide))
                        · exact fun hx => g13 (hx.trans (by decide))
                        · exact fun hx => g14 (hx.trans (by decide))
                        · exact fun hx => g15 (hx.trans (by decide))
                        · exact fun hx => g16 (hx.trans (by decide))
                        · exact fun hx => g17 (hx.trans (by decide))
                        · exact fun hx => g18 (hx.trans (by decide))
                        · exact fun hx => g19 (hx.trans (by decide))
                        · exact fun hx => g20 (hx.trans (by decide))
                      · refine lv_iconst (v := -1) hx hb zd_Mo_count_177 (by decide) ?_
                        exact zr_iret hx hb hr hlocks X (Option.some.inj hf) zd_Mo_count_178

