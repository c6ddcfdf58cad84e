set_option maxRecDepth 100000 in
set_option maxHeartbeats 8000000 in
theorem zl_loop {p : Program} {l : Launch} {e : Env} {s : State} {m : MethodId} {below : List Frame} {meth : Method} {c : Code} {D : va_G} {q q' : Nat → Nat} {cI cZ cJ : ClassId} {qo b L : Nat} {xs : Nat → Int32} (hfl : l.flags = flags0) (hL : L ≤ 3584) (C0 : lw_At p s m meth c b L xs) (hok : zt_ok s) (Rel : Nat → St → St → Prop)
    (h0 : ∀ (j : Nat) (σ τ : St) (x1 x2 x3 x4 x5 x6 : Int32), j < 512 → Rel j σ τ → ∃ (out : TO) (τ' : St), zf_SW_code σ x1 x2 x3 x4 x5 x6 = some out ∧ (out.1 = 0 ∨ out.1 = 1) ∧ zf_Mo_code τ x1 x2 x3 x4 x5 x6 = some τ' ∧ zf_Mo_thrown τ' = some (zh_n out.1) ∧ Rel (j + 1) out.2.2 τ')
    (h1 : ∀ (j : Nat) (σ τ : St) (x1 : Int32), j < 512 → Rel j σ τ → ∃ (out : TO) (τ' : St), zf_SW_start σ x1 = some out ∧ (out.1 = 0 ∨ out.1 = 1) ∧ zf_Mo_start τ x1 = some τ' ∧ zf_Mo_thrown τ' = some (zh_n out.1) ∧ Rel (j + 1) out.2.2 τ')
    (h2 : ∀ (j : Nat) (σ τ : St) (x1 : Int32), j < 512 → Rel j σ τ → ∃ (out : TO) (r : Int32 × St), zf_SW_run σ x1 = some out ∧ (out.1 = 0 ∨ out.1 = 1 ∨ out.1 = 2 ∨ out.1 = 3) ∧ zf_Mo_run τ x1 = some r ∧ zf_Mo_thrown r.2 = some (zh_n out.1) ∧ (out.1 = 0 → out.2.1 = r.1) ∧ Rel (j + 1) out.2.2 r.2)
    (h3 : ∀ (j : Nat) (σ τ : St) (x1 x2 : Int32), j < 512 → Rel j σ τ → ∃ (out : TO) (r : Int32 × St), zf_SW_register σ x1 x2 = some out ∧ (out.1 = 0 ∨ out.1 = 1) ∧ zf_Mo_register τ x1 x2 = some r ∧ zf_Mo_thrown r.2 = some (zh_n out.1) ∧ (out.1 = 0 → out.2.1 = r.1) ∧ Rel (j + 1) out.2.2 r.2)
    (h4 : ∀ (j : Nat) (σ τ : St) (x1 x2 : Int32), j < 512 → Rel j σ τ → ∃ (out : TO) (r : Int32 × St), zf_SW_memory σ x1 x2 = some out ∧ (out.1 = 0 ∨ out.1 = 1) ∧ zf_Mo_memory τ x1 x2 = some r ∧ zf_Mo_thrown r.2 = some (zh_n out.1) ∧ (out.1 = 0 → out.2.1 = r.1) ∧ Rel (j + 1) out.2.2 r.2)
    (h5 : ∀ (j : Nat) (σ τ : St) (x1 x2 : Int32), j < 512 → Rel j σ τ → ∃ (out : TO) (τ' : St), zf_SW_poke σ x1 x2 = some out ∧ (out.1 = 0 ∨ out.1 = 1) ∧ zf_Mo_poke τ x1 x2 = some τ' ∧ zf_Mo_thrown τ' = some (zh_n out.1) ∧ Rel (j + 1) out.2.2 τ')
    (h6 : ∀ (j : Nat) (σ τ : St) (x1 x2 : Int32), j < 512 → Rel j σ τ → ∃ (out : TO) (r : Int32 × St), zf_SW_finding σ x1 x2 = some out ∧ (out.1 = 0 ∨ out.1 = 1 ∨ out.1 = 4) ∧ zf_Mo_finding τ x1 x2 = some r ∧ zf_Mo_thrown r.2 = some (zh_n out.1) ∧ (out.1 = 0 → out.2.1 = r.1) ∧ Rel (j + 1) out.2.2 r.2)
    (h7 : ∀ (j : Nat) (σ τ : St) (x1 x2 : Int32), j < 512 → Rel j σ τ → ∃ (out : TO) (r : Int32 × St), zf_SW_block σ x1 x2 = some out ∧ (out.1 = 0 ∨ out.1 = 1 ∨ out.1 = 4) ∧ zf_Mo_block τ x1 x2 = some r ∧ zf_Mo_thrown r.2 = some (zh_n out.1) ∧ (out.1 = 0 → out.2.1 = r.1) ∧ Rel (j + 1) out.2.2 r.2)
    (h8 : ∀ (j : Nat) (σ τ : St) (x1 : Int32), j < 512 → Rel j σ τ → ∃ (out : TO) (r : Int32 × St), zf_SW_leaks σ x1 = some out ∧ (out.1 = 0 ∨ out.1 = 1) ∧ zf_Mo_leaks τ x1 = some r ∧ zf_Mo_thrown r.2 = some (zh_n out.1) ∧ (out.1 = 0 → out.2.1 = r.1) ∧ Rel (j + 1) out.2.2 r.2)
    (h9 : ∀ (j : Nat) (σ τ : St) (x1 : Int32), j < 512 → Rel j σ τ → ∃ (v : Int32) (τ' : St), zf_SW_count σ x1 = some v ∧ zf_Mo_count τ x1 = some (v, τ') ∧ Rel (j + 1) σ τ') (h10 : ∀ (j : Nat) (σ τ : St), Rel j σ τ → Rel (j + 1) σ τ) :
    ∀ (n j : Nat) (σ τ : St) (o : LO) (H : Heap) (locs : List Loc) (ls : Array Slot), 7 * j ≤ L → L < 7 * (j + n) → Rel j σ τ → zz_X D vwCl (zz_tyJ cI cZ cJ) (fun q : Nat => s.heap.size ≤ q) s H locs (wH q cI cZ qo cJ (σ, o) ++ wM q' cI cZ τ) → lv_has ls 7 [(0, .ref b), (1, .ref (q 0)), (2, .ref (q' 0)), (3, .ref qo), (4, .int (nI (7 * j)))] → W p l e room_1 s m #[Value.ref b] below meth c H locs (53 + j) (2347 + 6 * j) (lw_Z below #[Value.ref b] s) (F0 m 23 ls []) := by
  obtain ⟨hx, hb, hr, hml, hown, hts0, hX, hbl, hlocks, hgv⟩ := C0
  have hts : ∀ w ∈ zz_WS, w.before #[Value.ref b] s = true := fun w hw => hts0 w (List.mem_filter.mp hw).1
  have hbA : ¬ (fun q : Nat => s.heap.size ≤ q) b := Nat.not_le.mpr hbl
  have hAn : ∀ q : Nat, q < s.heap.size → ¬ (fun q : Nat => s.heap.size ≤ q) q := fun q h => Nat.not_le.mpr h
  intro n
  induction n with
  | zero =>
    intro j σ τ o H locs ls a1 a2
    exact absurd a2 (by omega)
  | succ n ih =>
    intro j σ τ o H locs ls hj hn hRel X hl
    have htail : ∀ (σ τ : St) (o : LO) (H : Heap) (locs : List Loc) (ls : Array Slot), 7 * j + 7 ≤ L → Rel (j + 1) σ τ → zz_X D vwCl (zz_tyJ cI cZ cJ) (fun q : Nat => s.heap.size ≤ q) s H locs (wH q cI cZ qo cJ (σ, o) ++ wM q' cI cZ τ) → lv_has ls 7 [(0, .ref b), (1, .ref (q 0)), (2, .ref (q' 0)), (3, .ref qo), (4, .int (nI (7 * j)))] → W p l e room_1 s m #[Value.ref b] below meth c H locs (53 + (j + 1)) (2347 + 6 * (j + 1)) (lw_Z below #[Value.ref b] s) (F0 m 687 ls []) := by
      intro σ τ o H locs ls hj7 hRel X hl
      refine lv_iinc (v := nI (7 * (j + 1))) (lv' := [(4, .int (nI (7 * (j + 1)))), (0, .ref b), (1, .ref (q 0)), (2, .ref (q' 0)), (3, .ref qo)]) hx hb zd_La_law_687 hl (k := 4) rfl (zl_inc j) (by decide) rfl (fun ls hl => ?_)
      refine lv_goto (tgt := 23) hx hb zd_La_law_690 (by decide) ?_
      exact ih (j + 1) σ τ o H locs ls (by omega) (by omega) hRel X (lv_sub hl [1, 2, 3, 4, 0] rfl)
    refine lv_iload hx hb zd_La_law_23 (lv_at hl 4 rfl) ?_
    refine lv_aload_n hx hb zd_La_law_25 rfl (lv_at hl 0 rfl) ?_
    refine va_slen hx hb hX hbl hbA X.2.2.2.1 zd_La_law_26 ?_
    refine lv_bipush (v := 7) hx hb zd_La_law_27 (by decide) ?_
    refine lv_isub hx hb zd_La_law_29 ?_
    refine lv_icmp_gt (tgt := 693) hx hb zd_La_law_30 (by decide) (fun g0 => ?_) (fun g0 => ?_)
    · refine lv_iconst (v := 1) hx hb zd_La_law_693 (by decide) ?_
      refine va_forget (fun q hq => X.2.2.2.1.2.2 q hq) ?_
      refine W.widen (k := 1090) (n := 10617) (by omega) (by omega) ?_
      exact lw_ret hx hb hr hlocks zd_La_law_694
    · have hj7 : 7 * j + 7 ≤ L := zl_in hj hL g0
      have hi0 : vp_in (nI (7 * j)) L := zl_ix0 (by omega) hL
      have hi1 : vp_in (nI (7 * j) + 1) L := zl_ix 1 (by omega) hL
      have hi2 : vp_in (nI (7 * j) + 2) L := zl_ix 2 (by omega) hL
      have hi3 : vp_in (nI (7 * j) + 3) L := zl_ix 3 (by omega) hL
      have hi4 : vp_in (nI (7 * j) + 4) L := zl_ix 4 (by omega) hL
      have hi5 : vp_in (nI (7 * j) + 5) L := zl_ix 5 (by omega) hL
      have hi6 : vp_in (nI (7 * j) + 6) L := zl_ix 6 (by omega) hL
      refine lv_aload_n hx hb zd_La_law_33 rfl (lv_at hl 0 rfl) ?_
      refine lv_iload hx hb zd_La_law_34 (lv_at hl 4 rfl) ?_
      refine va_sld hx hb hX hbl hbA X.2.2.2.1 hi0 zd_La_law_36 ?_
      refine lv_bipush (v := 15) hx hb zd_La_law_37 (by decide) ?_
      refine lv_iand hx hb zd_La_law_39 ?_
      generalize hop : (xs (nI (7 * j)).toNatClampNeg &&& 15) = op
      by_cases g10 : op = (0 : Int32)
      · refine lv_tableIn (tgt := 96) hx hb zd_La_law_40 (by rw [g10]; decide) (by rw [g10]; decide) (by rw [g10]; rfl) (by decide) ?_
        obtain ⟨out, τ', hf, hk, hg, hth, hRel'⟩ := h0 j σ τ (xs (nI (7 * j) + 1).toNatClampNeg) (xs (nI (7 * j) + 2).toNatClampNeg) (xs (nI (7 * j) + 3).toNatClampNeg) (xs (nI (7 * j) + 4).toNatClampNeg) (xs (nI (7 * j) + 5).toNatClampNeg) (xs (nI (7 * j) + 6).toNatClampNeg) (by omega) hRel
        refine lv_aload_n hx hb zd_La_law_96 rfl (lv_at hl 1 rfl) ?_
        refine lv_aload_n hx hb zd_La_law_97 rfl (lv_at hl 0 rfl) ?_
        refine lv_iload hx hb zd_La_law_98 (lv_at hl 4 rfl) ?_
        refine lv_iconst (v := 1) hx hb zd_La_law_100 (by decide) ?_
        refine lv_iadd hx hb zd_La_law_101 ?_
        refine va_sld hx hb hX hbl hbA X.2.2.2.1 hi1 zd_La_law_102 ?_
        refine lv_aload_n hx hb zd_La_law_103 rfl (lv_at hl 0 rfl) ?_
        refine lv_iload hx hb zd_La_law_104 (lv_at hl 4 rfl) ?_
        refine lv_iconst (v := 2) hx hb zd_La_law_106 (by decide) ?_
        refine lv_iadd hx hb zd_La_law_107 ?_
        refine va_sld hx hb hX hbl hbA X.2.2.2.1 hi2 zd_La_law_108 ?_
        refine lv_aload_n hx hb zd_La_law_109 rfl (lv_at hl 0 rfl) ?_
        refine lv_iload hx hb zd_La_law_110 (lv_at hl 4 rfl) ?_
        refine lv_iconst (v := 3) hx hb zd_La_law_112 (by decide) ?_
        refine lv_iadd hx hb zd_La_law_113 ?_
        refine va_sld hx hb hX hbl hbA X.2.2.2.1 hi3 zd_La_law_114 ?_
        refine lv_aload_n hx hb zd_La_law_115 rfl (lv_at hl 0 rfl) ?_
        refine lv_iload hx hb zd_La_law_116 (lv_at hl 4 rfl) ?_
        refine lv_iconst (v := 4) hx hb zd_La_law_118 (by decide) ?_
        refine lv_iadd hx hb zd_La_law_119 ?_
        refine va_sld hx hb hX hbl hbA X.2.2.2.1 hi4 zd_La_law_120 ?_
        refine lv_aload_n hx hb zd_La_law_121 rfl (lv_at hl 0 rfl) ?_
        refine lv_iload hx hb zd_La_law_122 (lv_at hl 4 rfl) ?_
        refine lv_iconst (v := 5) hx hb zd_La_law_124 (by decide) ?_
        refine lv_iadd hx hb zd_La_law_125 ?_
        refine va_sld hx hb hX hbl hbA X.2.2.2.1 hi5 zd_La_law_126 ?_
        refine lv_aload_n hx hb zd_La_law_127 rfl (lv_at hl 0 rfl) ?_
        refine lv_iload hx hb zd_La_law_128 (lv_at hl 4 rfl) ?_
        refine lv_bipush (v := 6) hx hb zd_La_law_130 (by decide) ?_
        refine lv_iadd hx hb zd_La_law_132 ?_
        refine va_sld hx hb hX hbl hbA X.2.2.2.1 hi6 zd_La_law_133 ?_
        refine zr_lh (w := wH q cI cZ qo cJ) (u := (σ, o)) (As := [.ref (q 0), .int (xs (nI (7 * j) + 1).toNatClampNeg), .int (xs (nI (7 * j) + 2).toNatClampNeg), .int (xs (nI (7 * j) + 3).toNatClampNeg), .int (xs (nI (7 * j) + 4).toNatClampNeg), .int (xs (nI (7 * j) + 5).toNatClampNeg), .int (xs (nI (7 * j) + 6).toNatClampNeg)]) (rest := []) hx hb hml hown hts hl.1 hok hAn X (zk_La_code l hfl D q cI cZ qo cJ hf hk) zkh_La_code zll_53 rfl rfl (Nat.le_of_ble_eq_true rfl) ⟨rfl, rfl⟩ ⟨Nat.le_of_ble_eq_true rfl, Nat.le_of_ble_eq_true rfl⟩ ⟨by show 53 + j + 1 ≤ 1090; omega, by show 2347 + 6 * j + 6 ≤ 10617; omega⟩ zd_La_law_134 (fun H locs X => ?_)
        refine lv_istore (lv' := [(5, .int (zh_n out.1)), (0, .ref b), (1, .ref (q 0)), (2, .ref (q' 0)), (3, .ref qo), (4, .int (nI (7 * j)))]) hx hb zd_La_law_137 hl (by decide) rfl (fun ls hl => ?_)
        refine lv_aload_n hx hb zd_La_law_139 rfl (lv_at hl 3 rfl) ?_
        refine lv_aload_n hx hb zd_La_law_140 rfl (lv_at hl 1 rfl) ?_
        refine lv_iload hx hb zd_La_law_141 (lv_at hl 5 rfl) ?_
        refine lv_iconst (v := 1) hx hb zd_La_law_143 (by decide) ?_
        refine lv_iadd hx hb zd_La_law_144 ?_
        refine va_sld hx hb hX hbl hbA X.2.2.2.1 hi1 zd_La_law_145 ?_
        refine lv_aload_n hx hb zd_La_law_146 rfl (lv_at hl 1 rfl) ?_
        refine lv_iload hx hb zd_La_law_147 (lv_at hl 5 rfl) ?_
        refine lv_iconst (v := 2) hx hb zd_La_law_149 (by decide) ?_
        refine lv_iadd hx hb zd_La_law_150 ?_
        refine va_sld hx hb hX hbl hbA X.2.2.2.1 hi2 zd_La_law_151 ?_
        refine lv_aload_n hx hb zd_La_law_152 rfl (lv_at hl 1 rfl) ?_
        refine lv_iload hx hb zd_La_law_153 (lv_at hl 5 rfl) ?_
        refine lv_iconst (v := 3) hx hb zd_La_law_155 (by decide) ?_
        refine lv_iadd hx hb zd_La_law_156 ?_
        refine va_sld hx hb hX hbl hbA X.2.2.2.1 hi3 zd_La_law_157 ?_
        refine lv_aload_n hx hb zd_La_law_158 rfl (lv_at hl 1 rfl) ?_
        refine lv_iload hx hb zd_La_law_159 (lv_at hl 5 rfl) ?_
        refine lv_iconst (v := 4) hx hb zd_La_law_161 (by decide) ?_
        refine lv_iadd hx hb zd_La_law_162 ?_
        refine va_sld hx hb hX hbl hbA X.2.2.2.1 hi4 zd_La_law_163 ?_
        refine lv_aload_n hx hb zd_La_law_164 rfl (lv_at hl 1 rfl) ?_
        refine lv_iload hx hb zd_La_law_165 (lv_at hl 5 rfl) ?_
        refine lv_iconst (v := 5) hx hb zd_La_law_167 (by decide) ?_
        refine lv_iadd hx hb zd_La_law_168 ?_
        refine va_sld hx hb hX hbl hbA X.2.2.2.1 hi5 zd_La_law_169 ?_
        refine lv_aload_n hx hb zd_La_law_170 rfl (lv_at hl 1 rfl) ?_
        refine lv_iload hx hb zd_La_law_171 (lv_at hl 5 rfl) ?_
        refine lv_bipush (v := 6) hx hb zd_La_law_173 (by decide) ?_
        refine lv_iadd hx hb zd_La_law_175 ?_
        refine va_sld hx hb hX hbl hbA X.2.2.2.1 hi6 zd_La_law_176 ?_
        have X := zx_swap X
        refine zr_lV (w := wM q' cI cZ) (As := [.int (xs (nI (7 * j) + 1).toNatClampNeg), .int (xs (nI (7 * j) + 2).toNatClampNeg), .int (xs (nI (7 * j) + 3).toNatClampNeg), .int (xs (nI (7 * j) + 4).toNatClampNeg), .int (xs (nI (7 * j) + 5).toNatClampNeg), .int (xs (nI (7 * j) + 6).toNatClampNeg)]) (rest := []) (q0 := 0) (ci := 9) hx hb hml hown hts hl.1 X [0, 1] rfl (zk_Mo_code l D q' cI cZ hg) zkw_Mo_code zll_58 rfl rfl (Nat.le_of_ble_eq_true rfl) rfl rfl ⟨rfl, rfl⟩ ⟨Nat.le_of_ble_eq_true rfl, Nat.le_of_ble_eq_true rfl⟩ ⟨by show 53 + j + 1 ≤ 1090; omega, by show 2347 + 6 * j + 6 ≤ 10617; omega⟩ zd_La_law_177 (fun H locs X => ?_)
        refine lv_aload_n hx hb zd_La_law_180 rfl (lv_at hl 3 rfl) ?_
        refine zr_lI (w := wM q' cI cZ) (out := (zh_n out.1, τ')) (As := []) (rest := []) (q0 := 0) (ci := 9) hx hb hml hown hts hl.1 X [0, 1] rfl (zk_Mo_thrown l D q' cI cZ hth) zkw_Mo_thrown zll_59 rfl rfl (Nat.le_of_ble_eq_true rfl) rfl rfl ⟨rfl, rfl⟩ ⟨Nat.le_of_ble_eq_true rfl, Nat.le_of_ble_eq_true rfl⟩ ⟨by show 53 + j + 1 ≤ 1090; omega, by show 2347 + 6 * j + 6 ≤ 10617; omega⟩ zd_La_law_181 (fun H locs X => ?_)
        have X := zx_swap X
        refine lv_iload hx hb zd_La_law_184 (lv_at hl 0 rfl) ?_
        refine lv_icmp_eq (tgt := 191) hx hb zd_La_law_186 (by decide) (fun g1 => ?_) (fun g1 => absurd rfl g1)
        refine lv_goto (tgt := 687) hx hb zd_La_law_191 (by decide) ?_
        exact htail out.2.2 τ' o H locs ls hj7 hRel' X (lv_sub hl [1, 2, 3, 4, 5] rfl)
      · by_cases g11 : op = (1 : Int32)
        · refine lv_tableIn (tgt := 194) hx hb zd_La_law_40 (by rw [g11]; decide) (by rw [g11]; decide) (by rw [g11]; rfl) (by decide) ?_
          obtain ⟨out, τ', hf, hk, hg, hth, hRel'⟩ := h1 j σ τ (xs (nI (7 * j) + 1).toNatClampNeg) (by omega) hRel
          refine lv_aload_n hx hb zd_La_law_194 rfl (lv_at hl 1 rfl) ?_
          refine lv_aload_n hx hb zd_La_law_195 rfl (lv_at hl 0 rfl) ?_
          refine lv_iload hx hb zd_La_law_196 (lv_at hl 4 rfl) ?_
          refine lv_iconst (v := 1) hx hb zd_La_law_198 (by decide) ?_
          refine lv_iadd hx hb zd_La_law_199 ?_
          refine va_sld hx hb hX hbl hbA X.2.2.2.1 hi1 zd_La_law_200 ?_
          refine zr_lh (w := wH q cI cZ qo cJ) (u := (σ, o)) (As := [.ref (q 0), .int (xs (nI (7 * j) + 1).toNatClampNeg)]) (rest := []) hx hb hml hown hts hl.1 hok hAn X (zk_La_start l hfl D q cI cZ qo cJ hf hk) zkh_La_start zll_63 rfl rfl (Nat.le_of_ble_eq_true rfl) ⟨rfl, rfl⟩ ⟨Nat.le_of_ble_eq_true rfl, Nat.le_of_ble_eq_true rfl⟩ ⟨by show 53 + j + 1 ≤ 1090; omega, by show 2347 + 6 * j + 6 ≤ 10617; omega⟩ zd_La_law_201 (fun H locs X => ?_)
          refine lv_istore (lv' := [(5, .int (zh_n out.1)), (0, .ref b), (1, .ref (q 0)), (2, .ref (q' 0)), (3, .ref qo), (4, .int (nI (7 * j)))]) hx hb zd_La_law_204 hl (by decide) rfl (fun ls hl => ?_)
          refine lv_aload_n hx hb zd_La_law_206 rfl (lv_at hl 3 rfl) ?_
          refine lv_aload_n hx hb zd_La_law_207 rfl (lv_at hl 1 rfl) ?_
          refine lv_iload hx hb zd_La_law_208 (lv_at hl 5 rfl) ?_
          refine lv_iconst (v := 1) hx hb zd_La_law_210 (by decide) ?_
          refine lv_iadd hx hb zd_La_law_211 ?_
          refine va_sld hx hb hX hbl hbA X.2.2.2.1 hi1 zd_La_law_212 ?_
          have X := zx_swap X
          refine zr_lV (w := wM q' cI cZ) (As := [.int (xs (nI (7 * j) + 1).toNatClampNeg)]) (rest := []) (q0 := 0) (ci := 9) hx hb hml hown hts hl.1 X [0, 1] rfl (zk_Mo_start l D q' cI cZ hg) zkw_Mo_start zll_66 rfl rfl (Nat.le_of_ble_eq_true rfl) rfl rfl ⟨rfl, rfl⟩ ⟨Nat.le_of_ble_eq_true rfl, Nat.le_of_ble_eq_true rfl⟩ ⟨by show 53 + j + 1 ≤ 1090; omega, by show 2347 + 6 * j + 6 ≤ 10617; omega⟩ zd_La_law_213 (fun H locs X => ?_)
          refine lv_aload_n hx hb zd_La_law_216 rfl (lv_at hl 3 rfl) ?_
          refine zr_lI (w := wM q' cI cZ) (out := (zh_n out.1, τ')) (As := []) (rest := []) (q0 := 0) (ci := 9) hx hb hml hown hts hl.1 X [0, 1] rfl (zk_Mo_thrown l D q' cI cZ hth) zkw_Mo_thrown zll_59 rfl rfl (Nat.le_of_ble_eq_true rfl) rfl rfl ⟨rfl, rfl⟩ ⟨Nat.le_of_ble_eq_true rfl, Nat.le_of_ble_eq_true rfl⟩ ⟨by show 53 + j + 1 ≤ 1090; omega, by show 2347 + 6 * j + 6 ≤ 10617; omega⟩ zd_La_law_217 (fun H locs X => ?_)
          have X := zx_swap X
          refine lv_iload hx hb zd_La_law_220 (lv_at hl 0 rfl) ?_
          refine lv_icmp_eq (tgt := 227) hx hb zd_La_law_222 (by decide) (fun g1 => ?_) (fun g1 => absurd rfl g1)
          refine lv_goto (tgt := 687) hx hb zd_La_law_227 (by decide) ?_
          exact htail out.2.2 τ' o H locs ls hj7 hRel' X (lv_sub hl [1, 2, 3, 4, 5] rfl)
        · by_cases g12 : op = (2 : Int32)
          · refine lv_tableIn (tgt := 230) hx hb zd_La_law_40 (by rw [g12]; decide) (by rw [g12]; decide) (by rw [g12]; rfl) (by decide) ?_
            obtain ⟨out, rr, hf, hk, hg, hth, hval, hRel'⟩ := h2 j σ τ (xs (nI (7 * j) + 1).toNatClampNeg) (by omega) hRel
            refine lv_aload_n hx hb zd_La_law_230 rfl (lv_at hl 1 rfl) ?_
            refine lv_aload_n hx hb zd_La_law_231 rfl (lv_at hl 0 rfl) ?_
            refine lv_iload hx hb zd_La_law_232 (lv_at hl 4 rfl) ?_
            refine lv_iconst (v := 1) hx hb zd_La_law_234 (by decide) ?_
            refine lv_iadd hx hb zd_La_law_235 ?_
            refine va_sld hx hb hX hbl hbA X.2.2.2.1 hi1 zd_La_law_236 ?_
            refine lv_aload_n hx hb zd_La_law_237 rfl (lv_at hl 3 rfl) ?_
            refine zr_lh (w := wH q cI cZ qo cJ) (u := (σ, o)) (As := [.ref (q 0), .int (xs (nI (7 * j) + 1).toNatClampNeg), .ref qo]) (rest := []) hx hb hml hown hts hl.1 hok hAn X (zk_La_run l hfl D q cI cZ qo cJ hf hk) zkh_La_run zll_67 rfl rfl (Nat.le_of_ble_eq_true rfl) ⟨rfl, rfl⟩ ⟨Nat.le_of_ble_eq_true rfl, Nat.le_of_ble_eq_true rfl⟩ ⟨by show 53 + j + 1 ≤ 1090; omega, by show 2347 + 6 * j + 6 ≤ 10617; omega⟩ zd_La_law_238 (fun H locs X => ?_)
            refine lv_istore (lv' := [(5, .int (zh_n out.1)), (0, .ref b), (1, .ref (q 0)), (2, .ref (q' 0)), (3, .ref qo), (4, .int (nI (7 * j)))]) hx hb zd_La_law_241 hl (by decide) rfl (fun ls hl => ?_)
            refine lv_aload_n hx hb zd_La_law_243 rfl (lv_at hl 3 rfl) ?_
            refine lv_aload_n hx hb zd_La_law_244 rfl (lv_at hl 1 rfl) ?_
            refine lv_iload hx hb zd_La_law_245 (lv_at hl 5 rfl) ?_
            refine lv_iconst (v := 1) hx hb zd_La_law_247 (by decide) ?_
            refine lv_iadd hx hb zd_La_law_248 ?_
            refine va_sld hx hb hX hbl hbA X.2.2.2.1 hi1 zd_La_law_249 ?_
            have X := zx_swap X
            refine zr_lI (w := wM q' cI cZ) (As := [.int (xs (nI (7 * j) + 1).toNatClampNeg)]) (rest := []) (q0 := 0) (ci := 9) hx hb hml hown hts hl.1 X [0, 1] rfl (zk_Mo_run l D q' cI cZ hg) zkw_Mo_run zll_70 rfl rfl (Nat.le_of_ble_eq_true rfl) rfl rfl ⟨rfl, rfl⟩ ⟨Nat.le_of_ble_eq_true rfl, Nat.le_of_ble_eq_true rfl⟩ ⟨by show 53 + j + 1 ≤ 1090; omega, by show 2347 + 6 * j + 6 ≤ 10617; omega⟩ zd_La_law_250 (fun H locs X => ?_)
            refine lv_istore (lv' := [(6, .int rr.1), (5, .int (zh_n out.1)), (0, .ref b), (1, .ref (q 0)), (2, .ref (q' 0)), (3, .ref qo), (4, .int (nI (7 * j)))]) hx hb zd_La_law_253 hl (by decide) rfl (fun ls hl => ?_)
            refine lv_aload_n hx hb zd_La_law_255 rfl (lv_at hl 4 rfl) ?_
            refine zr_lI (w := wM q' cI cZ) (out := (zh_n out.1, rr.2)) (As := []) (rest := []) (q0 := 0) (ci := 9) hx hb hml hown hts hl.1 X [0, 1] rfl (zk_Mo_thrown l D q' cI cZ hth) zkw_Mo_thrown zll_59 rfl rfl (Nat.le_of_ble_eq_true rfl) rfl rfl ⟨rfl, rfl⟩ ⟨Nat.le_of_ble_eq_true rfl, Nat.le_of_ble_eq_true rfl⟩ ⟨by show 53 + j + 1 ≤ 1090; omega, by show 2347 + 6 * j + 6 ≤ 10617; omega⟩ zd_La_law_256 (fun H locs X => ?_)
            have X := zx_swap X
            refine lv_iload hx hb zd_La_law_259 (lv_at hl 1 rfl) ?_
            refine lv_icmp_eq (tgt := 266) hx hb zd_La_law_261 (by decide) (fun g1 => ?_) (fun g1 => absurd rfl g1)
            refine lv_iload hx hb zd_La_law_266 (lv_at hl 1 rfl) ?_
            refine lv_if_ne (tgt := 283) hx hb zd_La_law_268 (by decide) (fun g2 => ?_) (fun g2 => ?_)
            · refine lv_goto (tgt := 687) hx hb zd_La_law_283 (by decide) ?_
              exact htail out.2.2 rr.2 (if out.1 = 0 then vp_updL o 0 out.2.1.toInt64 else o) H locs ls hj7 hRel' X (lv_sub hl [2, 3, 4, 5, 6] rfl)
            · have h0 : out.1 = 0 := zh_n0 g2
              refine lv_aload_n hx hb zd_La_law_271 rfl (lv_at hl 5 rfl) ?_
              refine lv_iconst (v := 0) hx hb zd_La_law_272 (by decide) ?_
              refine va_lald hx hb X.1 X.2.1 31 2 rfl rfl (by unfold vp_in; decide) zd_La_law_273 ?_
              refine lv_iload hx hb zd_La_law_274 (lv_at hl 0 rfl) ?_
              refine lv_i2l (v := rr.1.toInt64) hx hb zd_La_law_276 rfl ?_
              refine W.lcmp hx hb zd_La_law_277 ?_
              refine lv_if_eq (tgt := 283) hx hb zd_La_law_278 (by decide) (fun g3 => ?_) (fun g3 => absurd ?_ g3)
              · refine lv_goto (tgt := 687) hx hb zd_La_law_283 (by decide) ?_
                exact htail out.2.2 rr.2 (if out.1 = 0 then vp_updL o 0 out.2.1.toInt64 else o) H locs ls hj7 hRel' X (lv_sub hl [2, 3, 4, 5, 6] rfl)
              · show lg_cmp ((if out.1 = 0 then vp_updL o 0 out.2.1.toInt64 else o) (0 : Int32).toNatClampNeg) rr.1.toInt64 = 0
                rw [if_pos h0, hval h0]
                exact zl_cmp (o := o) rr.1
          · by_cases g13 : op = (3 : Int32)
            · refine lv_tableIn (tgt := 286) hx hb zd_La_law_40 (by rw [g13]; decide) (by rw [g13]; decide) (by rw [g13]; rfl) (by decide) ?_
              obtain ⟨out, rr, hf, hk, hg, hth, hval, hRel'⟩ := h3 j σ τ (xs (nI (7 * j) + 1).toNatClampNeg) (xs (nI (7 * j) + 2).toNatClampNeg) (by omega) hRel
              refine lv_aload_n hx hb zd_La_law_286 rfl (lv_at hl 1 rfl) ?_
              refine lv_aload_n hx hb zd_La_law_287 rfl (lv_at hl 0 rfl) ?_
              refine lv_iload hx hb zd_La_law_288 (lv_at hl 4 rfl) ?_
              refine lv_iconst (v := 1) hx hb zd_La_law_290 (by decide) ?_
              refine lv_iadd hx hb zd_La_law_291 ?_
              refine va_sld hx hb hX hbl hbA X.2.2.2.1 hi1 zd_La_law_292 ?_
              refine lv_aload_n hx hb zd_La_law_293 rfl (lv_at hl 0 rfl) ?_
              refine lv_iload hx hb zd_La_law_294 (lv_at hl 4 rfl) ?_
              refine lv_iconst (v := 2) hx hb zd_La_law_296 (by decide) ?_
              refine lv_iadd hx hb zd_La_law_297 ?_
              refine va_sld hx hb hX hbl hbA X.2.2.2.1 hi2 zd_La_law_298 ?_
              refine lv_aload_n hx hb zd_La_law_299 rfl (lv_at hl 3 rfl) ?_
              refine zr_lh (w := wH q cI cZ qo cJ) (u := (σ, o)) (As := [.ref (q 0), .int (xs (nI (7 * j) + 1).toNatClampNeg), .int (xs (nI (7 * j) + 2).toNatClampNeg), .ref qo]) (rest := []) hx hb hml hown hts hl.1 hok hAn X (zk_La_register l hfl D q cI cZ qo cJ hf hk) zkh_La_register zll_71 rfl rfl (Nat.le_of_ble_eq_true rfl) ⟨rfl, rfl⟩ ⟨Nat.le_of_ble_eq_true rfl, Nat.le_of_ble_eq_true rfl⟩ ⟨by show 53 + j + 1 ≤ 1090; omega, by show 2347 + 6 * j + 6 ≤ 10617; omega⟩ zd_La_law_300 (fun H locs X => ?_)
              refine lv_istore (lv' := [(5, .int (zh_n out.1)), (0, .ref b), (1, .ref (q 0)), (2, .ref (q' 0)), (3, .ref qo), (4, .int (nI (7 * j)))]) hx hb zd_La_law_303 hl (by decide) rfl (fun ls hl => ?_)
              refine lv_aload_n hx hb zd_La_law_305 rfl (lv_at hl 3 rfl) ?_
              refine lv_aload_n hx hb zd_La_law_306 rfl (lv_at hl 1 rfl) ?_
              refine lv_iload hx hb zd_La_law_307 (lv_at hl 5 rfl) ?_
              refine lv_iconst (v := 1) hx hb zd_La_law_309 (by decide) ?_
              refine lv_iadd hx hb zd_La_law_310 ?_
              refine va_sld hx hb hX hbl hbA X.2.2.2.1 hi1 zd_La_law_311 ?_
              refine lv_aload_n hx hb zd_La_law_312 rfl (lv_at hl 1 rfl) ?_
              refine lv_iload hx hb zd_La_law_313 (lv_at hl 5 rfl) ?_
              refine lv_iconst (v := 2) hx hb zd_La_law_315 (by decide) ?_
              refine lv_iadd hx hb zd_La_law_316 ?_
              refine va_sld hx hb hX hbl hbA X.2.2.2.1 hi2 zd_La_law_317 ?_
              have X := zx_swap X
              refine zr_lI (w := wM q' cI cZ) (As := [.int (xs (nI (7 * j) + 1).toNatClampNeg), .int (xs (nI (7 * j) + 2).toNatClampNeg)]) (rest := []) (q0 := 0) (ci := 9) hx hb hml hown hts hl.1 X [0, 1] rfl (zk_Mo_register l D q' cI cZ hg) zkw_Mo_register zll_74 rfl rfl (Nat.le_of_ble_eq_true rfl) rfl rfl ⟨rfl, rfl⟩ ⟨Nat.le_of_ble_eq_true rfl, Nat.le_of_ble_eq_true rfl⟩ ⟨by show 53 + j + 1 ≤ 1090; omega, by show 2347 + 6 * j + 6 ≤ 10617; omega⟩ zd_La_law_318 (fun H locs X => ?_)
              refine lv_istore (lv' := [(6, .int rr.1), (5, .int (zh_n out.1)), (0, .ref b), (1, .ref (q 0)), (2, .ref (q' 0)), (3, .ref qo), (4, .int (nI (7 * j)))]) hx hb zd_La_law_321 hl (by decide) rfl (fun ls hl => ?_)
              refine lv_aload_n hx hb zd_La_law_323 rfl (lv_at hl 4 rfl) ?_
              refine zr_lI (w := wM q' cI cZ) (out := (zh_n out.1, rr.2)) (As := []) (rest := []) (q0 := 0) (ci := 9) hx hb hml hown hts hl.1 X [0, 1] rfl (zk_Mo_thrown l D q' cI cZ hth) zkw_Mo_thrown zll_59 rfl rfl (Nat.le_of_ble_eq_true rfl) rfl rfl ⟨rfl, rfl⟩ ⟨Nat.le_of_ble_eq_true rfl, Nat.le_of_ble_eq_true rfl⟩ ⟨by show 53 + j + 1 ≤ 1090; omega, by show 2347 + 6 * j + 6 ≤ 10617; omega⟩ zd_La_law_324 (fun H locs X => ?_)
              have X := zx_swap X
              refine lv_iload hx hb zd_La_law_327 (lv_at hl 1 rfl) ?_
              refine lv_icmp_eq (tgt := 334) hx hb zd_La_law_329 (by decide) (fun g1 => ?_) (fun g1 => absurd rfl g1)
              refine lv_iload hx hb zd_La_law_334 (lv_at hl 1 rfl) ?_
              refine lv_if_ne (tgt := 351) hx hb zd_La_law_336 (by decide) (fun g2 => ?_) (fun g2 => ?_)
              · refine lv_goto (tgt := 687) hx hb zd_La_law_351 (by decide) ?_
                exact htail out.2.2 rr.2 (if out.1 = 0 then vp_updL o 0 out.2.1.toInt64 else o) H locs ls hj7 hRel' X (lv_sub hl [2, 3, 4, 5, 6] rfl)
              · have h0 : out.1 = 0 := zh_n0 g2
                refine lv_aload_n hx hb zd_La_law_339 rfl (lv_at hl 5 rfl) ?_
                refine lv_iconst (v := 0) hx hb zd_La_law_340 (by decide) ?_
                refine va_lald hx hb X.1 X.2.1 31 2 rfl rfl (by unfold vp_in; decide) zd_La_law_341 ?_
                refine lv_iload hx hb zd_La_law_342 (lv_at hl 0 rfl) ?_
                refine lv_i2l (v := rr.1.toInt64) hx hb zd_La_law_344 rfl ?_
                refine W.lcmp hx hb zd_La_law_345 ?_
                refine lv_if_eq (tgt := 351) hx hb zd_La_law_346 (by decide) (fun g3 => ?_) (fun g3 => absurd ?_ g3)
                · refine lv_goto (tgt := 687) hx hb zd_La_law_351 (by decide) ?_
                  exact htail out.2.2 rr.2 (if out.1 = 0 then vp_updL o 0 out.2.1.toInt64 else o) H locs ls hj7 hRel' X (lv_sub hl [2, 3, 4, 5, 6] rfl)
                · show lg_cmp ((if out.1 = 0 then vp_updL o 0 out.2.1.toInt64 else o) (0 : Int32).toNatClampNeg) rr.1.toInt64 = 0
                  rw [if_pos h0, hval h0]
                  exact zl_cmp (o := o) rr.1
            · by_cases g14 : op = (4 : Int32)
              · refine lv_tableIn (tgt := 354) hx hb zd_La_law_40 (by rw [g14]; decide) (by rw [g14]; decide) (by rw [g14]; rfl) (by decide) ?_
                obtain ⟨out, rr, hf, hk, hg, hth, hval, hRel'⟩ := h4 j σ τ (xs (nI (7 * j) + 1).toNatClampNeg) (xs (nI (7 * j) + 2).toNatClampNeg) (by omega) hRel
                refine lv_aload_n hx hb zd_La_law_354 rfl (lv_at hl 1 rfl) ?_
                refine lv_aload_n hx hb zd_La_law_355 rfl (lv_at hl 0 rfl) ?_
                refine lv_iload hx hb zd_La_law_356 (lv_at hl 4 rfl) ?_
                refine lv_iconst (v := 1) hx hb zd_La_law_358 (by decide) ?_
                refine lv_iadd hx hb zd_La_law_359 ?_
                refine va_sld hx hb hX hbl hbA X.2.2.2.1 hi1 zd_La_law_360 ?_
                refine lv_aload_n hx hb zd_La_law_361 rfl (lv_at hl 0 rfl) ?_
                refine lv_iload hx hb zd_La_law_362 (lv_at hl 4 rfl) ?_
                refine lv_iconst (v := 2) hx hb zd_La_law_364 (by decide) ?_
                refine lv_iadd hx hb zd_La_law_365 ?_
                refine va_sld hx hb hX hbl hbA X.2.2.2.1 hi2 zd_La_law_366 ?_
                refine lv_aload_n hx hb zd_La_law_367 rfl (lv_at hl 3 rfl) ?_
                refine zr_lh (w := wH q cI cZ qo cJ) (u := (σ, o)) (As := [.ref (q 0), .int (xs (nI (7 * j) + 1).toNatClampNeg), .int (xs (nI (7 * j) + 2).toNatClampNeg), .ref qo]) (rest := []) hx hb hml hown hts hl.1 hok hAn X (zk_La_memory l hfl D q cI cZ qo cJ hf hk) zkh_La_memory zll_75 rfl rfl (Nat.le_of_ble_eq_true rfl) ⟨rfl, rfl⟩ ⟨Nat.le_of_ble_eq_true rfl, Nat.le_of_ble_eq_true rfl⟩ ⟨by show 53 + j + 1 ≤ 1090; omega, by show 2347 + 6 * j + 6 ≤ 10617; omega⟩ zd_La_law_368 (fun H locs X => ?_)
                refine lv_istore (lv' := [(5, .int (zh_n out.1)), (0, .ref b), (1, .ref (q 0)), (2, .ref (q' 0)), (3, .ref qo), (4, .int (nI (7 * j)))]) hx hb zd_La_law_371 hl (by decide) rfl (fun ls hl => ?_)
                refine lv_aload_n hx hb zd_La_law_373 rfl (lv_at hl 3 rfl) ?_
                refine lv_aload_n hx hb zd_La_law_374 rfl (lv_at hl 1 rfl) ?_
                refine lv_iload hx hb zd_La_law_375 (lv_at hl 5 rfl) ?_
                refine lv_iconst (v := 1) hx hb zd_La_law_377 (by decide) ?_
                refine lv_iadd hx hb zd_La_law_378 ?_
                refine va_sld hx hb hX hbl hbA X.2.2.2.1 hi1 zd_La_law_379 ?_
                refine lv_aload_n hx hb zd_La_law_380 rfl (lv_at hl 1 rfl) ?_
                refine lv_iload hx hb zd_La_law_381 (lv_at hl 5 rfl) ?_
                refine lv_iconst (v := 2) hx hb zd_La_law_383 (by decide) ?_
                refine lv_iadd hx hb zd_La_law_384 ?_
                refine va_sld hx hb hX hbl hbA X.2.2.2.1 hi2 zd_La_law_385 ?_
                have X := zx_swap X
                refine zr_lI (w := wM q' cI cZ) (As := [.int (xs (nI (7 * j) + 1).toNatClampNeg), .int (xs (nI (7 * j) + 2).toNatClampNeg)]) (rest := []) (q0 := 0) (ci := 9) hx hb hml hown hts hl.1 X [0, 1] rfl (zk_Mo_memory l D q' cI cZ hg) zkw_Mo_memory zll_77 rfl rfl (Nat.le_of_ble_eq_true rfl) rfl rfl ⟨rfl, rfl⟩ ⟨Nat.le_of_ble_eq_true rfl, Nat.le_of_ble_eq_true rfl⟩ ⟨by show 53 + j + 1 ≤ 1090; omega, by show 2347 + 6 * j + 6 ≤ 10617; omega⟩ zd_La_law_386 (fun H locs X => ?_)
                refine lv_istore (lv' := [(6, .int rr.1), (5, .int (zh_n out.1)), (0, .ref b), (1, .ref (q 0)), (2, .ref (q' 0)), (3, .ref qo), (4, .int (nI (7 * j)))]) hx hb zd_La_law_389 hl (by decide) rfl (fun ls hl => ?_)
                refine lv_aload_n hx hb zd_La_law_391 rfl (lv_at hl 4 rfl) ?_
                refine zr_lI (w := wM q' cI cZ) (out := (zh_n out.1, rr.2)) (As := []) (rest := []) (q0 := 0) (ci := 9) hx hb hml hown hts hl.1 X [0, 1] rfl (zk_Mo_thrown l D q' cI cZ hth) zkw_Mo_thrown zll_59 rfl rfl (Nat.le_of_ble_eq_true rfl) rfl rfl ⟨rfl, rfl⟩ ⟨Nat.le_of_ble_eq_true rfl, Nat.le_of_ble_eq_true rfl⟩ ⟨by show 53 + j + 1 ≤ 1090; omega, by show 2347 + 6 * j + 6 ≤ 10617; omega⟩ zd_La_law_392 (fun H locs X => ?_)
                have X := zx_swap X
                refine lv_iload hx hb zd_La_law_395 (lv_at hl 1 rfl) ?_
                refine lv_icmp_eq (tgt := 402) hx hb zd_La_law_397 (by decide) (fun g1 => ?_) (fun g1 => absurd rfl g1)
                refine lv_iload hx hb zd_La_law_402 (lv_at hl 1 rfl) ?_
                refine lv_if_ne (tgt := 419) hx hb zd_La_law_404 (by decide) (fun g2 => ?_) (fun g2 => ?_)
                · refine lv_goto (tgt := 687) hx hb zd_La_law_419 (by decide) ?_
                  exact htail out.2.2 rr.2 (if out.1 = 0 then vp_updL o 0 out.2.1.toInt64 else o) H locs ls hj7 hRel' X (lv_sub hl [2, 3, 4, 5, 6] rfl)
                · have h0 : out.1 = 0 := zh_n0 g2
                  refine lv_aload_n hx hb zd_La_law_407 rfl (lv_at hl 5 rfl) ?_
                  refine lv_iconst (v := 0) hx hb zd_La_law_408 (by decide) ?_
                  refine va_lald hx hb X.1 X.2.1 31 2 rfl rfl (by unfold vp_in; decide) zd_La_law_409 ?_
                  refine lv_iload hx hb zd_La_law_410 (lv_at hl 0 rfl) ?_
                  refine lv_i2l (v := rr.1.toInt64) hx hb zd_La_law_412 rfl ?_
                  refine W.lcmp hx hb zd_La_law_413 ?_
                  refine lv_if_eq (tgt := 419) hx hb zd_La_law_414 (by decide) (fun g3 => ?_) (fun g3 => absurd ?_ g3)
                  · refine lv_goto (tgt := 687) hx hb zd_La_law_419 (by decide) ?_
                    exact htail out.2.2 rr.2 (if out.1 = 0 then vp_updL o 0 out.2.1.toInt64 else o) H locs ls hj7 hRel' X (lv_sub hl [2, 3, 4, 5, 6] rfl)
                  · show lg_cmp ((if out.1 = 0 then vp_updL o 0 out.2.1.toInt64 else o) (0 : Int32).toNatClampNeg) rr.1.toInt64 = 0
                    rw [if_pos h0, hval h0]
                    exact zl_cmp (o := o) rr.1
              · by_cases g15 : op = (5 : Int32)
                · refine lv_tableIn (tgt := 422) hx hb zd_La_law_40 (by rw [g15]; decide) (by rw [g15]; decide) (by rw [g15]; rfl) (by decide) ?_
                  obtain ⟨out, τ', hf, hk, hg, hth, hRel'⟩ := h5 j σ τ (xs (nI (7 * j) + 1).toNatClampNeg) (xs (nI (7 * j) + 2).toNatClampNeg) (by omega) hRel
                  refine lv_aload_n hx hb zd_La_law_422 rfl (lv_at hl 1 rfl) ?_
                  refine lv_aload_n hx hb zd_La_law_423 rfl (lv_at hl 0 rfl) ?_
                  refine lv_iload hx hb zd_La_law_424 (lv_at hl 4 rfl) ?_
                  refine lv_iconst (v := 1) hx hb zd_La_law_426 (by decide) ?_
                  refine lv_iadd hx hb zd_La_law_427 ?_
                  refine va_sld hx hb hX hbl hbA X.2.2.2.1 hi1 zd_La_law_428 ?_
                  refine lv_aload_n hx hb zd_La_law_429 rfl (lv_at hl 0 rfl) ?_
                  refine lv_iload hx hb zd_La_law_430 (lv_at hl 4 rfl) ?_
                  refine lv_iconst (v := 2) hx hb zd_La_law_432 (by decide) ?_
                  refine lv_iadd hx hb zd_La_law_433 ?_
                  refine va_sld hx hb hX hbl hbA X.2.2.2.1 hi2 zd_La_law_434 ?_
                  refine zr_lh (w := wH q cI cZ qo cJ) (u := (σ, o)) (As := [.ref (q 0), .int (xs (nI (7 * j) + 1).toNatClampNeg), .int (xs (nI (7 * j) + 2).toNatClampNeg)]) (rest := []) hx hb hml hown hts hl.1 hok hAn X (zk_La_poke l hfl D q cI cZ qo cJ hf hk) zkh_La_poke zll_78 rfl rfl (Nat.le_of_ble_eq_true rfl) ⟨rfl, rfl⟩ ⟨Nat.le_of_ble_eq_true rfl, Nat.le_of_ble_eq_true rfl⟩ ⟨by show 53 + j + 1 ≤ 1090; omega, by show 2347 + 6 * j + 6 ≤ 10617; omega⟩ zd_La_law_435 (fun H locs X => ?_)
                  refine lv_istore (lv' := [(5, .int (zh_n out.1)), (0, .ref b), (1, .ref (q 0)), (2, .ref (q' 0)), (3, .ref qo), (4, .int (nI (7 * j)))]) hx hb zd_La_law_438 hl (by decide) rfl (fun ls hl => ?_)
                  refine lv_aload_n hx hb zd_La_law_440 rfl (lv_at hl 3 rfl) ?_
                  refine lv_aload_n hx hb zd_La_law_441 rfl (lv_at hl 1 rfl) ?_
                  refine lv_iload hx hb zd_La_law_442 (lv_at hl 5 rfl) ?_
                  refine lv_iconst (v := 1) hx hb zd_La_law_444 (by decide) ?_
                  refine lv_iadd hx hb zd_La_law_445 ?_
                  refine va_sld hx hb hX hbl hbA X.2.2.2.1 hi1 zd_La_law_446 ?_
                  refine lv_aload_n hx hb zd_La_law_447 rfl (lv_at hl 1 rfl) ?_
                  refine lv_iload hx hb zd_La_law_448 (lv_at hl 5 rfl) ?_
                  refine lv_iconst (v := 2) hx hb zd_La_law_450 (by decide) ?_
                  refine lv_iadd hx hb zd_La_law_451 ?_
                  refine va_sld hx hb hX hbl hbA X.2.2.2.1 hi2 zd_La_law_452 ?_
                  have X := zx_swap X
                  refine zr_lV (w := wM q' cI cZ) (As := [.int (xs (nI (7 * j) + 1).toNatClampNeg), .int (xs (nI (7 * j) + 2).toNatClampNeg)]) (rest := []) (q0 := 0) (ci := 9) hx hb hml hown hts hl.1 X [0, 1] rfl (zk_Mo_poke l D q' cI cZ hg) zkw_Mo_poke zll_81 rfl rfl (Nat.le_of_ble_eq_true rfl) rfl rfl ⟨rfl, rfl⟩ ⟨Nat.le_of_ble_eq_true rfl, Nat.le_of_ble_eq_true rfl⟩ ⟨by show 53 + j + 1 ≤ 1090; omega, by show 2347 + 6 * j + 6 ≤ 10617; omega⟩ zd_La_law_453 (fun H locs X => ?_)
                  refine lv_aload_n hx hb zd_La_law_456 rfl (lv_at hl 3 rfl) ?_
                  refine zr_lI (w := wM q' cI cZ) (out := (zh_n out.1, τ')) (As := []) (rest := []) (q0 := 0) (ci := 9) hx hb hml hown hts hl.1 X [0, 1] rfl (zk_Mo_thrown l D q' cI cZ hth) zkw_Mo_thrown zll_59 rfl rfl (Nat.le_of_ble_eq_true rfl) rfl rfl ⟨rfl, rfl⟩ ⟨Nat.le_of_ble_eq_true rfl, Nat.le_of_ble_eq_true rfl⟩ ⟨by show 53 + j + 1 ≤ 1090; omega, by show 2347 + 6 * j + 6 ≤ 10617; omega⟩ zd_La_law_457 (fun H locs X => ?_)
                  have X := zx_swap X
                  refine lv_iload hx hb zd_La_law_460 (lv_at hl 0 rfl) ?_
                  refine lv_icmp_eq (tgt := 467) hx hb zd_La_law_462 (by decide) (fun g1 => ?_) (fun g1 => absurd rfl g1)
                  refine lv_goto (tgt := 687) hx hb zd_La_law_467 (by decide) ?_
                  exact htail out.2.2 τ' o H locs ls hj7 hRel' X (lv_sub hl [1, 2, 3, 4, 5] rfl)
                · by_cases g16 : op = (6 : Int32)
                  · refine lv_tableIn (tgt := 470) hx hb zd_La_law_40 (by rw [g16]; decide) (by rw [g16]; decide) (by rw [g16]; rfl) (by decide) ?_
                    obtain ⟨out, rr, hf, hk, hg, hth, hval, hRel'⟩ := h6 j σ τ (xs (nI (7 * j) + 1).toNatClampNeg) (xs (nI (7 * j) + 2).toNatClampNeg) (by omega) hRel
                    refine lv_aload_n hx hb zd_La_law_470 rfl (lv_at hl 1 rfl) ?_
                    refine lv_aload_n hx hb zd_La_law_471 rfl (lv_at hl 0 rfl) ?_
                    refine lv_iload hx hb zd_La_law_472 (lv_at hl 4 rfl) ?_
                    refine lv_iconst (v := 1) hx hb zd_La_law_474 (by decide) ?_
                    refine lv_iadd hx hb zd_La_law_475 ?_
                    refine va_sld hx hb hX hbl hbA X.2.2.2.1 hi1 zd_La_law_476 ?_
                    refine lv_aload_n hx hb zd_La_law_477 rfl (lv_at hl 0 rfl) ?_
                    refine lv_iload hx hb zd_La_law_478 (lv_at hl 4 rfl) ?_
                    refine lv_iconst (v := 2) hx hb zd_La_law_480 (by decide) ?_
                    refine lv_iadd hx hb zd_La_law_481 ?_
                    refine va_sld hx hb hX hbl hbA X.2.2.2.1 hi2 zd_La_law_482 ?_
                    refine lv_aload_n hx hb zd_La_law_483 rfl (lv_at hl 3 rfl) ?_
                    refine zr_lh (w := wH q cI cZ qo cJ) (u := (σ, o)) (As := [.ref (q 0), .int (xs (nI (7 * j) + 1).toNatClampNeg), .int (xs (nI (7 * j) + 2).toNatClampNeg), .ref qo]) (rest := []) hx hb hml hown hts hl.1 hok hAn X (zk_La_finding l hfl D q cI cZ qo cJ hf hk) zkh_La_finding zll_82 rfl rfl (Nat.le_of_ble_eq_true rfl) ⟨rfl, rfl⟩ ⟨Nat.le_of_ble_eq_true rfl, Nat.le_of_ble_eq_true rfl⟩ ⟨by show 53 + j + 1 ≤ 1090; omega, by show 2347 + 6 * j + 6 ≤ 10617; omega⟩ zd_La_law_484 (fun H locs X => ?_)
                    refine lv_istore (lv' := [(5, .int (zh_n out.1)), (0, .ref b), (1, .ref (q 0)), (2, .ref (q' 0)), (3, .ref qo), (4, .int (nI (7 * j)))]) hx hb zd_La_law_487 hl (by decide) rfl (fun ls hl => ?_)
                    refine lv_aload_n hx hb zd_La_law_489 rfl (lv_at hl 3 rfl) ?_
                    refine lv_aload_n hx hb zd_La_law_490 rfl (lv_at hl 1 rfl) ?_
                    refine lv_iload hx hb zd_La_law_491 (lv_at hl 5 rfl) ?_
                    refine lv_iconst (v := 1) hx hb zd_La_law_493 (by decide) ?_
                    refine lv_iadd hx hb zd_La_law_494 ?_
                    refine va_sld hx hb hX hbl hbA X.2.2.2.1 hi1 zd_La_law_495 ?_
                    refine lv_aload_n hx hb zd_La_law_496 rfl (lv_at hl 1 rfl) ?_
                    refine lv_iload hx hb zd_La_law_497 (lv_at hl 5 rfl) ?_
                    refine lv_iconst (v := 2) hx hb zd_La_law_499 (by decide) ?_
                    refine lv_iadd hx hb zd_La_law_500 ?_
                    refine va_sld hx hb hX hbl hbA X.2.2.2.1 hi2 zd_La_law_501 ?_
                    have X := zx_swap X
                    refine zr_lI (w := wM q' cI cZ) (As := [.int (xs (nI (7 * j) + 1).toNatClampNeg), .int (xs (nI (7 * j) + 2).toNatClampNeg)]) (rest := []) (q0 := 0) (ci := 9) hx hb hml hown hts hl.1 X [0, 1] rfl (zk_Mo_finding l D q' cI cZ hg) zkw_Mo_finding zll_84 rfl rfl (Nat.le_of_ble_eq_true rfl) rfl rfl ⟨rfl, rfl⟩ ⟨Nat.le_of_ble_eq_true rfl, Nat.le_of_ble_eq_true rfl⟩ ⟨by show 53 + j + 1 ≤ 1090; omega, by show 2347 + 6 * j + 6 ≤ 10617; omega⟩ zd_La_law_502 (fun H locs X => ?_)
                    refine lv_istore (lv' := [(6, .int rr.1), (5, .int (zh_n out.1)), (0, .ref b), (1, .ref (q 0)), (2, .ref (q' 0)), (3, .ref qo), (4, .int (nI (7 * j)))]) hx hb zd_La_law_505 hl (by decide) rfl (fun ls hl => ?_)
                    refine lv_aload_n hx hb zd_La_law_507 rfl (lv_at hl 4 rfl) ?_
                    refine zr_lI (w := wM q' cI cZ) (out := (zh_n out.1, rr.2)) (As := []) (rest := []) (q0 := 0) (ci := 9) hx hb hml hown hts hl.1 X [0, 1] rfl (zk_Mo_thrown l D q' cI cZ hth) zkw_Mo_thrown zll_59 rfl rfl (Nat.le_of_ble_eq_true rfl) rfl rfl ⟨rfl, rfl⟩ ⟨Nat.le_of_ble_eq_true rfl, Nat.le_of_ble_eq_true rfl⟩ ⟨by show 53 + j + 1 ≤ 1090; omega, by show 2347 + 6 * j + 6 ≤ 10617; omega⟩ zd_La_law_508 (fun H locs X => ?_)
                    have X := zx_swap X
                    refine lv_iload hx hb zd_La_law_511 (lv_at hl 1 rfl) ?_
                    refine lv_icmp_eq (tgt := 518) hx hb zd_La_law_513 (by decide) (fun g1 => ?_) (fun g1 => absurd rfl g1)
                    refine lv_iload hx hb zd_La_law_518 (lv_at hl 1 rfl) ?_
                    refine lv_if_ne (tgt := 535) hx hb zd_La_law_520 (by decide) (fun g2 => ?_) (fun g2 => ?_)
                    · refine lv_goto (tgt := 687) hx hb zd_La_law_535 (by decide) ?_
                      exact htail out.2.2 rr.2 (if out.1 = 0 then vp_updL o 0 out.2.1.toInt64 else o) H locs ls hj7 hRel' X (lv_sub hl [2, 3, 4, 5, 6] rfl)
                    · have h0 : out.1 = 0 := zh_n0 g2
                      refine lv_aload_n hx hb zd_La_law_523 rfl (lv_at hl 5 rfl) ?_
                      refine lv_iconst (v := 0) hx hb zd_La_law_524 (by decide) ?_
                      refine va_lald hx hb X.1 X.2.1 31 2 rfl rfl (by unfold vp_in; decide) zd_La_law_525 ?_
                      refine lv_iload hx hb zd_La_law_526 (lv_at hl 0 rfl) ?_
                      refine lv_i2l (v := rr.1.toInt64) hx hb zd_La_law_528 rfl ?_
                      refine W.lcmp hx hb zd_La_law_529 ?_
                      refine lv_if_eq (tgt := 535) hx hb zd_La_law_530 (by decide) (fun g3 => ?_) (fun g3 => absurd ?_ g3)
                      · refine lv_goto (tgt := 687) hx hb zd_La_law_535 (by decide) ?_
                        exact htail out.2.2 rr.2 (if out.1 = 0 then vp_updL o 0 out.2.1.toInt64 else o) H locs ls hj7 hRel' X (lv_sub hl [2, 3, 4, 5, 6] rfl)
                      · show lg_cmp ((if out.1 = 0 then vp_updL o 0 out.2.1.toInt64 else o) (0 : Int32).toNatClampNeg) rr.1.toInt64 = 0
                        rw [if_pos h0, hval h0]
                        exact zl_cmp (o := o) rr.1
                  · by_cases g17 : op = (7 : Int32)
                    · refine lv_tableIn (tgt := 538) hx hb zd_La_law_40 (by rw [g17]; decide) (by rw [g17]; decide) (by rw [g17]; rfl) (by decide) ?_
                      obtain ⟨out, rr, hf, hk, hg, hth, hval, hRel'⟩ := h7 j σ τ (xs (nI (7 * j) + 1).toNatClampNeg) (xs (nI (7 * j) + 2).toNatClampNeg) (by omega) hRel
                      refine lv_aload_n hx hb zd_La_law_538 rfl (lv_at hl 1 rfl) ?_
                      refine lv_aload_n hx hb zd_La_law_539 rfl (lv_at hl 0 rfl) ?_
                      refine lv_iload hx hb zd_La_law_540 (lv_at hl 4 rfl) ?_
                      refine lv_iconst (v := 1) hx hb zd_La_law_542 (by decide) ?_
                      refine lv_iadd hx hb zd_La_law_543 ?_
                      refine va_sld hx hb hX hbl hbA X.2.2.2.1 hi1 zd_La_law_544 ?_
                      refine lv_aload_n hx hb zd_La_law_545 rfl (lv_at hl 0 rfl) ?_
                      refine lv_iload hx hb zd_La_law_546 (lv_at hl 4 rfl) ?_
                      refine lv_iconst (v := 2) hx hb zd_La_law_548 (by decide) ?_
                      refine lv_iadd hx hb zd_La_law_549 ?_
                      refine va_sld hx hb hX hbl hbA X.2.2.2.1 hi2 zd_La_law_550 ?_
                      refine lv_aload_n hx hb zd_La_law_551 rfl (lv_at hl 3 rfl) ?_
                      refine zr_lh (w := wH q cI cZ qo cJ) (u := (σ, o)) (As := [.ref (q 0), .int (xs (nI (7 * j) + 1).toNatClampNeg), .int (xs (nI (7 * j) + 2).toNatClampNeg), .ref qo]) (rest := []) hx hb hml hown hts hl.1 hok hAn X (zk_La_block l hfl D q cI cZ qo cJ hf hk) zkh_La_block zll_85 rfl rfl (Nat.le_of_ble_eq_true rfl) ⟨rfl, rfl⟩ ⟨Nat.le_of_ble_eq_true rfl, Nat.le_of_ble_eq_true rfl⟩ ⟨by show 53 + j + 1 ≤ 1090; omega, by show 2347 + 6 * j + 6 ≤ 10617; omega⟩ zd_La_law_552 (fun H locs X => ?_)
                      refine lv_istore (lv' := [(5, .int (zh_n out.1)), (0, .ref b), (1, .ref (q 0)), (2, .ref (q' 0)), (3, .ref qo), (4, .int (nI (7 * j)))]) hx hb zd_La_law_555 hl (by decide) rfl (fun ls hl => ?_)
                      refine lv_aload_n hx hb zd_La_law_557 rfl (lv_at hl 3 rfl) ?_
                      refine lv_aload_n hx hb zd_La_law_558 rfl (lv_at hl 1 rfl) ?_
                      refine lv_iload hx hb zd_La_law_559 (lv_at hl 5 rfl) ?_
                      refine lv_iconst (v := 1) hx hb zd_La_law_561 (by decide) ?_
                      refine lv_iadd hx hb zd_La_law_562 ?_
                      refine va_sld hx hb hX hbl hbA X.2.2.2.1 hi1 zd_La_law_563 ?_
                      refine lv_aload_n hx hb zd_La_law_564 rfl (lv_at hl 1 rfl) ?_
                      refine lv_iload hx hb zd_La_law_565 (lv_at hl 5 rfl) ?_
                      refine lv_iconst (v := 2) hx hb zd_La_law_567 (by decide) ?_
                      refine lv_iadd hx hb zd_La_law_568 ?_
                      refine va_sld hx hb hX hbl hbA X.2.2.2.1 hi2 zd_La_law_569 ?_
                      have X := zx_swap X
                      refine zr_lI (w := wM q' cI cZ) (As := [.int (xs (nI (7 * j) + 1).toNatClampNeg), .int (xs (nI (7 * j) + 2).toNatClampNeg)]) (rest := []) (q0 := 0) (ci := 9) hx hb hml hown hts hl.1 X [0, 1] rfl (zk_Mo_block l D q' cI cZ hg) zkw_Mo_block zll_87 rfl rfl (Nat.le_of_ble_eq_true rfl) rfl rfl ⟨rfl, rfl⟩ ⟨Nat.le_of_ble_eq_true rfl, Nat.le_of_ble_eq_true rfl⟩ ⟨by show 53 + j + 1 ≤ 1090; omega, by show 2347 + 6 * j + 6 ≤ 10617; omega⟩ zd_La_law_570 (fun H locs X => ?_)
                      refine lv_istore (lv' := [(6, .int rr.1), (5, .int (zh_n out.1)), (0, .ref b), (1, .ref (q 0)), (2, .ref (q' 0)), (3, .ref qo), (4, .int (nI (7 * j)))]) hx hb zd_La_law_573 hl (by decide) rfl (fun ls hl => ?_)
                      refine lv_aload_n hx hb zd_La_law_575 rfl (lv_at hl 4 rfl) ?_
                      refine zr_lI (w := wM q' cI cZ) (out := (zh_n out.1, rr.2)) (As := []) (rest := []) (q0 := 0) (ci := 9) hx hb hml hown hts hl.1 X [0, 1] rfl (zk_Mo_thrown l D q' cI cZ hth) zkw_Mo_thrown zll_59 rfl rfl (Nat.le_of_ble_eq_true rfl) rfl rfl ⟨rfl, rfl⟩ ⟨Nat.le_of_ble_eq_true rfl, Nat.le_of_ble_eq_true rfl⟩ ⟨by show 53 + j + 1 ≤ 1090; omega, by show 2347 + 6 * j + 6 ≤ 10617; omega⟩ zd_La_law_576 (fun H locs X => ?_)
                      have X := zx_swap X
                      refine lv_iload hx hb zd_La_law_579 (lv_at hl 1 rfl) ?_
                      refine lv_icmp_eq (tgt := 586) hx hb zd_La_law_581 (by decide) (fun g1 => ?_) (fun g1 => absurd rfl g1)
                      refine lv_iload hx hb zd_La_law_586 (lv_at hl 1 rfl) ?_
                      refine lv_if_ne (tgt := 603) hx hb zd_La_law_588 (by decide) (fun g2 => ?_) (fun g2 => ?_)
                      · refine lv_goto (tgt := 687) hx hb zd_La_law_603 (by decide) ?_
                        exact htail out.2.2 rr.2 (if out.1 = 0 then vp_updL o 0 out.2.1.toInt64 else o) H locs ls hj7 hRel' X (lv_sub hl [2, 3, 4, 5, 6] rfl)
                      · have h0 : out.1 = 0 := zh_n0 g2
                        refine lv_aload_n hx hb zd_La_law_591 rfl (lv_at hl 5 rfl) ?_
                        refine lv_iconst (v := 0) hx hb zd_La_law_592 (by decide) ?_
                        refine va_lald hx hb X.1 X.2.1 31 2 rfl rfl (by unfold vp_in; decide) zd_La_law_593 ?_
                        refine lv_iload hx hb zd_La_law_594 (lv_at hl 0 rfl) ?_
                        refine lv_i2l (v := rr.1.toInt64) hx hb zd_La_law_596 rfl ?_
                        refine W.lcmp hx hb zd_La_law_597 ?_
                        refine lv_if_eq (tgt := 603) hx hb zd_La_law_598 (by decide) (fun g3 => ?_) (fun g3 => absurd ?_ g3)
                        · refine lv_goto (tgt := 687) hx hb zd_La_law_603 (by decide) ?_
                          exact htail out.2.2 rr.2 (if out.1 = 0 then vp_updL o 0 out.2.1.toInt64 else o) H locs ls hj7 hRel' X (lv_sub hl [2, 3, 4, 5, 6] rfl)
                        · show lg_cmp ((if out.1 = 0 then vp_updL o 0 out.2.1.toInt64 else o) (0 : Int32).toNatClampNeg) rr.1.toInt64 = 0
                          rw [if_pos h0, hval h0]
                          exact zl_cmp (o := o) rr.1
                    · by_cases g18 : op = (8 : Int32)
                      · refine lv_tableIn (tgt := 606) hx hb zd_La_law_40 (by rw [g18]; decide) (by rw [g18]; decide) (by rw [g18]; rfl) (by decide) ?_
                        obtain ⟨out, rr, hf, hk, hg, hth, hval, hRel'⟩ := h8 j σ τ (xs (nI (7 * j) + 1).toNatClampNeg) (by omega) hRel
                        refine lv_aload_n hx hb zd_La_law_606 rfl (lv_at hl 1 rfl) ?_
                        refine lv_aload_n hx hb zd_La_law_607 rfl (lv_at hl 0 rfl) ?_
                        refine lv_iload hx hb zd_La_law_608 (lv_at hl 4 rfl) ?_
                        refine lv_iconst (v := 1) hx hb zd_La_law_610 (by decide) ?_
                        refine lv_iadd hx hb zd_La_law_611 ?_
                        refine va_sld hx hb hX hbl hbA X.2.2.2.1 hi1 zd_La_law_612 ?_
                        refine lv_aload_n hx hb zd_La_law_613 rfl (lv_at hl 3 rfl) ?_
                        refine zr_lh (w := wH q cI cZ qo cJ) (u := (σ, o)) (As := [.ref (q 0), .int (xs (nI (7 * j) + 1).toNatClampNeg), .ref qo]) (rest := []) hx hb hml hown hts hl.1 hok hAn X (zk_La_leaks l hfl D q cI cZ qo cJ hf hk) zkh_La_leaks zll_88 rfl rfl (Nat.le_of_ble_eq_true rfl) ⟨rfl, rfl⟩ ⟨Nat.le_of_ble_eq_true rfl, Nat.le_of_ble_eq_true rfl⟩ ⟨by show 53 + j + 1 ≤ 1090; omega, by show 2347 + 6 * j + 6 ≤ 10617; omega⟩ zd_La_law_614 (fun H locs X => ?_)
                        refine lv_istore (lv' := [(5, .int (zh_n out.1)), (0, .ref b), (1, .ref (q 0)), (2, .ref (q' 0)), (3, .ref qo), (4, .int (nI (7 * j)))]) hx hb zd_La_law_617 hl (by decide) rfl (fun ls hl => ?_)
                        refine lv_aload_n hx hb zd_La_law_619 rfl (lv_at hl 3 rfl) ?_
                        refine lv_aload_n hx hb zd_La_law_620 rfl (lv_at hl 1 rfl) ?_
                        refine lv_iload hx hb zd_La_law_621 (lv_at hl 5 rfl) ?_
                        refine lv_iconst (v := 1) hx hb zd_La_law_623 (by decide) ?_
                        refine lv_iadd hx hb zd_La_law_624 ?_
                        refine va_sld hx hb hX hbl hbA X.2.2.2.1 hi1 zd_La_law_625 ?_
                        have X := zx_swap X
                        refine zr_lI (w := wM q' cI cZ) (As := [.int (xs (nI (7 * j) + 1).toNatClampNeg)]) (rest := []) (q0 := 0) (ci := 9) hx hb hml hown hts hl.1 X [0, 1] rfl (zk_Mo_leaks l D q' cI cZ hg) zkw_Mo_leaks zll_90 rfl rfl (Nat.le_of_ble_eq_true rfl) rfl rfl ⟨rfl, rfl⟩ ⟨Nat.le_of_ble_eq_true rfl, Nat.le_of_ble_eq_true rfl⟩ ⟨by show 53 + j + 1 ≤ 1090; omega, by show 2347 + 6 * j + 6 ≤ 10617; omega⟩ zd_La_law_626 (fun H locs X => ?_)
                        refine lv_istore (lv' := [(6, .int rr.1), (5, .int (zh_n out.1)), (0, .ref b), (1, .ref (q 0)), (2, .ref (q' 0)), (3, .ref qo), (4, .int (nI (7 * j)))]) hx hb zd_La_law_629 hl (by decide) rfl (fun ls hl => ?_)
                        refine lv_aload_n hx hb zd_La_law_631 rfl (lv_at hl 4 rfl) ?_
                        refine zr_lI (w := wM q' cI cZ) (out := (zh_n out.1, rr.2)) (As := []) (rest := []) (q0 := 0) (ci := 9) hx hb hml hown hts hl.1 X [0, 1] rfl (zk_Mo_thrown l D q' cI cZ hth) zkw_Mo_thrown zll_59 rfl rfl (Nat.le_of_ble_eq_true rfl) rfl rfl ⟨rfl, rfl⟩ ⟨Nat.le_of_ble_eq_true rfl, Nat.le_of_ble_eq_true rfl⟩ ⟨by show 53 + j + 1 ≤ 1090; omega, by show 2347 + 6 * j + 6 ≤ 10617; omega⟩ zd_La_law_632 (fun H locs X => ?_)
                        have X := zx_swap X
                        refine lv_iload hx hb zd_La_law_635 (lv_at hl 1 rfl) ?_
                        refine lv_icmp_eq (tgt := 642) hx hb zd_La_law_637 (by decide) (fun g1 => ?_) (fun g1 => absurd rfl g1)
                        refine lv_iload hx hb zd_La_law_642 (lv_at hl 1 rfl) ?_
                        refine lv_if_ne (tgt := 659) hx hb zd_La_law_644 (by decide) (fun g2 => ?_) (fun g2 => ?_)
                        · refine lv_goto (tgt := 687) hx hb zd_La_law_659 (by decide) ?_
                          exact htail out.2.2 rr.2 (if out.1 = 0 then vp_updL o 0 out.2.1.toInt64 else o) H locs ls hj7 hRel' X (lv_sub hl [2, 3, 4, 5, 6] rfl)
                        · have h0 : out.1 = 0 := zh_n0 g2
                          refine lv_aload_n hx hb zd_La_law_647 rfl (lv_at hl 5 rfl) ?_
                          refine lv_iconst (v := 0) hx hb zd_La_law_648 (by decide) ?_
                          refine va_lald hx hb X.1 X.2.1 31 2 rfl rfl (by unfold vp_in; decide) zd_La_law_649 ?_
                          refine lv_iload hx hb zd_La_law_650 (lv_at hl 0 rfl) ?_
                          refine lv_i2l (v := rr.1.toInt64) hx hb zd_La_law_652 rfl ?_
                          refine W.lcmp hx hb zd_La_law_653 ?_
                          refine lv_if_eq (tgt := 659) hx hb zd_La_law_654 (by decide) (fun g3 => ?_) (fun g3 => absurd ?_ g3)
                          · refine lv_goto (tgt := 687) hx hb zd_La_law_659 (by decide) ?_
                            exact htail out.2.2 rr.2 (if out.1 = 0 then vp_updL o 0 out.2.1.toInt64 else o) H locs ls hj7 hRel' X (lv_sub hl [2, 3, 4, 5, 6] rfl)
                          · show lg_cmp ((if out.1 = 0 then vp_updL o 0 out.2.1.toInt64 else o) (0 : Int32).toNatClampNeg) rr.1.toInt64 = 0
                            rw [if_pos h0, hval h0]
                            exact zl_cmp (o := o) rr.1
                      · by_cases g19 : op = (9 : Int32)
                        · refine lv_tableIn (tgt := 662) hx hb zd_La_law_40 (by rw [g19]; decide) (by rw [g19]; decide) (by rw [g19]; rfl) (by decide) ?_
                          obtain ⟨v, τ', hf, hg, hRel'⟩ := h9 j σ τ (xs (nI (7 * j) + 1).toNatClampNeg) (by omega) hRel
                          refine lv_aload_n hx hb zd_La_law_662 rfl (lv_at hl 1 rfl) ?_
                          refine lv_aload_n hx hb zd_La_law_663 rfl (lv_at hl 0 rfl) ?_
                          refine lv_iload hx hb zd_La_law_664 (lv_at hl 4 rfl) ?_
                          refine lv_iconst (v := 1) hx hb zd_La_law_666 (by decide) ?_
                          refine lv_iadd hx hb zd_La_law_667 ?_
                          refine va_sld hx hb hX hbl hbA X.2.2.2.1 hi1 zd_La_law_668 ?_
                          have X : zz_X D vwCl (zz_tyJ cI cZ cJ) (fun q : Nat => s.heap.size ≤ q) s H locs (wS q cI cZ σ ++ ([(qo, .inl (cJ, 1, .inr (.inl o)))] ++ wM q' cI cZ τ)) := X
                          refine zr_lI (w := wS q cI cZ) (out := (v, σ)) (As := [.int (xs (nI (7 * j) + 1).toNatClampNeg)]) (rest := []) (q0 := 0) (ci := 0) hx hb hml hown hts hl.1 X [0, 1] rfl (zk_SW_count l D q cI cZ hf) zkw_SW_count zll_91 rfl rfl (Nat.le_of_ble_eq_true rfl) rfl rfl ⟨rfl, rfl⟩ ⟨Nat.le_of_ble_eq_true rfl, Nat.le_of_ble_eq_true rfl⟩ ⟨by show 53 + j ≤ 1090; omega, by show 2347 + 6 * j ≤ 10617; omega⟩ zd_La_law_669 (fun H locs X => ?_)
                          have X : zz_X D vwCl (zz_tyJ cI cZ cJ) (fun q : Nat => s.heap.size ≤ q) s H locs (wH q cI cZ qo cJ (σ, o) ++ wM q' cI cZ τ) := X
                          have X := zx_swap X
                          refine lv_aload_n hx hb zd_La_law_672 rfl (lv_at hl 2 rfl) ?_
                          refine lv_aload_n hx hb zd_La_law_673 rfl (lv_at hl 0 rfl) ?_
                          refine lv_iload hx hb zd_La_law_674 (lv_at hl 4 rfl) ?_
                          refine lv_iconst (v := 1) hx hb zd_La_law_676 (by decide) ?_
                          refine lv_iadd hx hb zd_La_law_677 ?_
                          refine va_sld hx hb hX hbl hbA X.2.2.2.1 hi1 zd_La_law_678 ?_
                          refine zr_lI (w := wM q' cI cZ) (out := (v, τ')) (As := [.int (xs (nI (7 * j) + 1).toNatClampNeg)]) (rest := [.int v]) (q0 := 0) (ci := 9) hx hb hml hown hts hl.1 X [0, 1] rfl (zk_Mo_count l D q' cI cZ hg) zkw_Mo_count zll_94 rfl rfl (Nat.le_of_ble_eq_true rfl) rfl rfl ⟨rfl, rfl⟩ ⟨Nat.le_of_ble_eq_true rfl, Nat.le_of_ble_eq_true rfl⟩ ⟨by show 53 + j ≤ 1090; omega, by show 2347 + 6 * j ≤ 10617; omega⟩ zd_La_law_679 (fun H locs X => ?_)
                          have X := zx_swap X
                          refine lv_icmp_eq (tgt := 687) hx hb zd_La_law_682 (by decide) (fun g1 => ?_) (fun g1 => absurd rfl g1)
                          refine W.widen (k := 53 + (j + 1)) (n := 2347 + 6 * (j + 1)) (by omega) (by omega) ?_
                          exact htail σ τ' o H locs ls hj7 hRel' X hl
                        · refine lv_tableOut (tgt := 687) hx hb zd_La_law_40 (zz_out (fun k h1 h2 => ?_)) (by decide) ?_
                          · have : k = 0 ∨ k = 1 ∨ k = 2 ∨ k = 3 ∨ k = 4 ∨ k = 5 ∨ k = 6 ∨ k = 7 ∨ k = 8 ∨ k = 9 := by omega
                            rcases this with rfl | rfl | rfl | rfl | rfl | rfl | rfl | rfl | rfl | rfl
                            · exact fun hx => g10 (hx.trans (by decide))
                            · exact fun hx => g11 (hx.trans (by decide))
                            · exact fun hx => g12 (hx.trans (by decide))
                            · exact fun hx => g13 (hx.trans (by decide))
                            · exact fun hx => g14 (hx.trans (by decide))
                            · exact fun hx => g15 (hx.trans (by decide))
                            · exact fun hx => g16 (hx.trans (by decide))
                            · exact fun hx => g17 (hx.trans (by decide))
                            · exact fun hx => g18 (hx.trans (by decide))
                            · exact fun hx => g19 (hx.trans (by decide))
                          · refine W.widen (k := 53 + (j + 1)) (n := 2347 + 6 * (j + 1)) (by omega) (by omega) ?_
                            exact htail σ τ o H locs ls hj7 (h10 j σ τ hRel) X hl

