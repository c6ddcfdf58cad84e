set_option maxRecDepth 100000 in
set_option maxHeartbeats 8000000 in
theorem zk_SW_init (l : Launch) (D : va_G) (h0 : Nat) {outE outG : St} (hfE : zf_E_Me_init_b31 (fun _ _ => 0) = some outE) (hfG : zf_G_Re_clear (fun _ _ => 0) = some outG) : zC l D vwCl (fun u => [(u.2.1, .int), (u.2.2.1, .boolean)]) (fun u => wS u.1 u.2.1 u.2.2.1 u.2.2.2) zy_SW_init (.code zy_SW_init zc_SW_init 1 none :: zz_WS) zm_SW_init [.ref h0] [(h0, .inr (0, [.null, .null, .null, .null, .null, .null, .null, .null]))] (fun u => u.1 0 = h0 ∧ u.2.2.2 = zSW0 outE outG) 30 1187 := by
  refine zC_of (by decide +kernel) (Nat.le_of_ble_eq_true rfl) (fun p e s m below meth c A ls hx hb hml hown hts hr hlocks hin X hl => ?_)
  have hl : lv_has ls 1 [(0, .ref h0)] := hl
  refine lv_aload_n hx hb zd_SW_init_0 rfl (lv_at hl 0 rfl) ?_
  refine W.objInit hx hb hown (hts _ zio_SW_init) (hts _ zo_inst) (hts _ zo_code) rfl (by rw [hml]; exact hl.1) rfl zd_SW_init_1 (Nat.le_of_ble_eq_true rfl) (Nat.le_of_ble_eq_true rfl) ?_
  refine W.eq (g2 := F0 m 4 ls []) rfl ?_
  refine lv_aload_n hx hb zd_SW_init_4 rfl (lv_at hl 0 rfl) ?_
  refine zr_new (ci := 1) (fs := [.null, .null, .null]) (C := zR_Me) (T := zT_Me) (N := 3) hx hb hown hts zi_Me zt_Me zo_Me zin_SW_init_7 zik_Me_init zij_Me_init X rfl (fun j hj => by rcases (show j = 0 ∨ j = 1 ∨ j = 2 by omega) with rfl | rfl | rfl <;> rfl) ⟨Nat.le_of_ble_eq_true rfl, Nat.le_of_ble_eq_true rfl⟩ zd_SW_init_5 (fun q1 H X => ?_)
  refine lv_dup hx hb zd_SW_init_8 rfl ?_
  refine zr_ci (n := 0) (As := []) (rest := [.ref q1, .ref h0]) (ci := 1) hx hb hml hown hts hl.1 X (zk_Me_init l D q1 hfE) zic_Me_init zij_Me_init zim_SW_init_9 zii_Me_init rfl ⟨by decide +kernel, by decide +kernel, by decide +kernel⟩ rfl rfl (Nat.le_of_ble_eq_true rfl) ⟨rfl, rfl⟩ ⟨Nat.le_of_ble_eq_true rfl, Nat.le_of_ble_eq_true rfl⟩ ⟨Nat.le_of_ble_eq_true rfl, Nat.le_of_ble_eq_true rfl⟩ zd_SW_init_9 (fun u H locs hw X => ?_)
  obtain ⟨a1, i1, z1, s1⟩ := u
  have hw : s1 = outE := hw
  subst s1
  have X : zz_X D vwCl [(i1, .int), (z1, .boolean)] A s H locs (zwC_Me q1 (a1, i1, z1, outE) ++ [(h0, .inr (0, [.null, .null, .null, .null, .null, .null, .null, .null]))]) := X
  refine va_putF (D := D) (ci := 0) (v := .ref q1) (ty := (.object "ShadowWarden$Memory")) (C := zR_SW) (T := zT_SW) (N := 8) hx hb hts zi_SW zt_SW zo_SW zn_SW hown X.1 X.2.1 X.2.2.1 X.2.2.2.1 4 rfl rfl 0 (by decide) (hts _ zif_SW_init_10) (fun _ h9 => h9) rfl hin rfl (by decide +kernel) rfl rfl (Nat.le_of_ble_eq_true rfl) zd_SW_init_12 (fun H locs hP hD hS => ?_)
  have X : zz_X D vwCl [(i1, .int), (z1, .boolean)] A s H locs (zwC_Me q1 (a1, i1, z1, outE) ++ [(h0, .inr (0, [.ref q1, .null, .null, .null, .null, .null, .null, .null]))]) := ⟨X.1, hP, hD, hS, X.2.2.2.2⟩
  refine lv_aload_n hx hb zd_SW_init_15 rfl (lv_at hl 0 rfl) ?_
  refine zr_new (ci := 2) (fs := [.null, .null]) (C := zR_Re) (T := zT_Re) (N := 2) hx hb hown hts zi_Re zt_Re zo_Re zin_SW_init_16 zik_Re_init zij_Re_init X rfl (fun j hj => by rcases (show j = 0 ∨ j = 1 by omega) with rfl | rfl <;> rfl) ⟨Nat.le_of_ble_eq_true rfl, Nat.le_of_ble_eq_true rfl⟩ zd_SW_init_16 (fun q2 H X => ?_)
  refine lv_dup hx hb zd_SW_init_19 rfl ?_
  refine zr_ci (n := 0) (As := []) (rest := [.ref q2, .ref h0]) (ci := 2) hx hb hml hown hts hl.1 X (zk_Re_init l D q2 hfG) zic_Re_init zij_Re_init zim_SW_init_18 zii_Re_init rfl ⟨by decide +kernel, by decide +kernel, by decide +kernel⟩ rfl rfl (Nat.le_of_ble_eq_true rfl) ⟨rfl, rfl⟩ ⟨Nat.le_of_ble_eq_true rfl, Nat.le_of_ble_eq_true rfl⟩ ⟨Nat.le_of_ble_eq_true rfl, Nat.le_of_ble_eq_true rfl⟩ zd_SW_init_20 (fun u H locs hw X => ?_)
  obtain ⟨a2, i2, z2, s2⟩ := u
  have hw : s2 = (fun v => outG (v - 3)) := hw
  subst s2
  have X : zz_X D vwCl [(i1, .int), (z1, .boolean), (i2, .int)] A s H locs (zwC_Re q2 (a2, i2, z2, (fun v => outG (v - 3))) ++ (zwC_Me q1 (a1, i1, z1, outE) ++ [(h0, .inr (0, [.ref q1, .null, .null, .null, .null, .null, .null, .null]))])) := X
  refine va_putF (D := D) (ci := 0) (v := .ref q2) (ty := (.object "ShadowWarden$Registers")) (C := zR_SW) (T := zT_SW) (N := 8) hx hb hts zi_SW zt_SW zo_SW zn_SW hown X.1 X.2.1 X.2.2.1 X.2.2.2.1 7 rfl rfl 1 (by decide) (hts _ zif_SW_init_19) (fun _ h9 => h9) rfl hin rfl (by decide +kernel) rfl rfl (Nat.le_of_ble_eq_true rfl) zd_SW_init_23 (fun H locs hP hD hS => ?_)
  have X : zz_X D vwCl [(i1, .int), (z1, .boolean), (i2, .int)] A s H locs (zwC_Re q2 (a2, i2, z2, (fun v => outG (v - 3))) ++ (zwC_Me q1 (a1, i1, z1, outE) ++ [(h0, .inr (0, [.ref q1, .ref q2, .null, .null, .null, .null, .null, .null]))])) := ⟨X.1, hP, hD, hS, X.2.2.2.2⟩
  refine lv_aload_n hx hb zd_SW_init_26 rfl (lv_at hl 0 rfl) ?_
  refine zr_new (ci := 3) (fs := [.null, .null, .null, .null, .null]) (C := zR_Pr) (T := zT_Pr) (N := 5) hx hb hown hts zi_Pr zt_Pr zo_Pr zin_SW_init_23 zik_Pr_init zij_Pr_init X rfl (fun j hj => by rcases (show j = 0 ∨ j = 1 ∨ j = 2 ∨ j = 3 ∨ j = 4 by omega) with rfl | rfl | rfl | rfl | rfl <;> rfl) ⟨Nat.le_of_ble_eq_true rfl, Nat.le_of_ble_eq_true rfl⟩ zd_SW_init_27 (fun q3 H X => ?_)
  refine lv_dup hx hb zd_SW_init_30 rfl ?_
  refine zr_ci (n := 0) (As := []) (rest := [.ref q3, .ref h0]) (ci := 3) hx hb hml hown hts hl.1 X (zk_Pr_init l D q3) zic_Pr_init zij_Pr_init zim_SW_init_25 zii_Pr_init rfl ⟨by decide +kernel, by decide +kernel, by decide +kernel⟩ rfl rfl (Nat.le_of_ble_eq_true rfl) ⟨rfl, rfl⟩ ⟨Nat.le_of_ble_eq_true rfl, Nat.le_of_ble_eq_true rfl⟩ ⟨Nat.le_of_ble_eq_true rfl, Nat.le_of_ble_eq_true rfl⟩ zd_SW_init_31 (fun u H locs hw X => ?_)
  obtain ⟨a3, i3, z3, s3⟩ := u
  have hw : s3 = (fun _ _ => 0) := hw
  subst s3
  have X : zz_X D vwCl [(i1, .int), (z1, .boolean), (i2, .int), (i3, .int)] A s H locs (zwC_Pr q3 (a3, i3, z3, (fun _ _ => 0)) ++ (zwC_Re q2 (a2, i2, z2, (fun v => outG (v - 3))) ++ (zwC_Me q1 (a1, i1, z1, outE) ++ [(h0, .inr (0, [.ref q1, .ref q2, .null, .null, .null, .null, .null, .null]))]))) := X
  refine va_putF (D := D) (ci := 0) (v := .ref q3) (ty := (.object "ShadowWarden$Program")) (C := zR_SW) (T := zT_SW) (N := 8) hx hb hts zi_SW zt_SW zo_SW zn_SW hown X.1 X.2.1 X.2.2.1 X.2.2.2.1 13 rfl rfl 2 (by decide) (hts _ zif_SW_init_26) (fun _ h9 => h9) rfl hin rfl (by decide +kernel) rfl rfl (Nat.le_of_ble_eq_true rfl) zd_SW_init_34 (fun H locs hP hD hS => ?_)
  have X : zz_X D vwCl [(i1, .int), (z1, .boolean), (i2, .int), (i3, .int)] A s H locs (zwC_Pr q3 (a3, i3, z3, (fun _ _ => 0)) ++ (zwC_Re q2 (a2, i2, z2, (fun v => outG (v - 3))) ++ (zwC_Me q1 (a1, i1, z1, outE) ++ [(h0, .inr (0, [.ref q1, .ref q2, .ref q3, .null, .null, .null, .null, .null]))]))) := ⟨X.1, hP, hD, hS, X.2.2.2.2⟩
  refine lv_aload_n hx hb zd_SW_init_37 rfl (lv_at hl 0 rfl) ?_
  refine zr_new (ci := 4) (fs := [.null, .null, .int 0, .int 0]) (C := zR_Pi) (T := zT_Pi) (N := 4) hx hb hown hts zi_Pi zt_Pi zo_Pi zin_SW_init_30 zik_Pi_init zij_Pi_init X rfl (fun j hj => by rcases (show j = 0 ∨ j = 1 ∨ j = 2 ∨ j = 3 by omega) with rfl | rfl | rfl | rfl <;> rfl) ⟨Nat.le_of_ble_eq_true rfl, Nat.le_of_ble_eq_true rfl⟩ zd_SW_init_38 (fun q4 H X => ?_)
  refine lv_dup hx hb zd_SW_init_41 rfl ?_
  refine lv_aload_n hx hb zd_SW_init_42 rfl (lv_at hl 0 rfl) ?_
  refine va_get (D := D) (ci := 0) (v := .ref q3) (C := zR_SW) (T := zT_SW) (N := 8) hx hb hts zi_SW hown X.1 X.2.1 14 rfl rfl 2 (by decide) (hts _ zif_SW_init_26) (fun _ h9 => h9) rfl zd_SW_init_43 ?_
  refine zr_ci (n := 1) (As := [.ref q3]) (rest := [.ref q4, .ref h0]) (ci := 4) hx hb hml hown hts hl.1 X (zk_Pi_init l D q4 q3) zic_Pi_init zij_Pi_init zim_SW_init_32 zii_Pi_init rfl ⟨by decide +kernel, by decide +kernel, by decide +kernel⟩ rfl rfl (Nat.le_of_ble_eq_true rfl) ⟨rfl, rfl⟩ ⟨Nat.le_of_ble_eq_true rfl, Nat.le_of_ble_eq_true rfl⟩ ⟨Nat.le_of_ble_eq_true rfl, Nat.le_of_ble_eq_true rfl⟩ zd_SW_init_46 (fun u H locs hw X => ?_)
  obtain ⟨a4, i4, z4, s4⟩ := u
  have hw : s4 = (fun _ _ => 0) := hw
  subst s4
  have X : zz_X D vwCl [(i1, .int), (z1, .boolean), (i2, .int), (i3, .int), (i4, .int)] A s H locs (zwC_Pi q4 q3 (a4, i4, z4, (fun _ _ => 0)) ++ (zwC_Pr q3 (a3, i3, z3, (fun _ _ => 0)) ++ (zwC_Re q2 (a2, i2, z2, (fun v => outG (v - 3))) ++ (zwC_Me q1 (a1, i1, z1, outE) ++ [(h0, .inr (0, [.ref q1, .ref q2, .ref q3, .null, .null, .null, .null, .null]))])))) := X
  refine va_putF (D := D) (ci := 0) (v := .ref q4) (ty := (.object "ShadowWarden$Pieces")) (C := zR_SW) (T := zT_SW) (N := 8) hx hb hts zi_SW zt_SW zo_SW zn_SW hown X.1 X.2.1 X.2.2.1 X.2.2.2.1 15 rfl rfl 3 (by decide) (hts _ zif_SW_init_35) (fun _ h9 => h9) rfl hin rfl (by decide +kernel) rfl rfl (Nat.le_of_ble_eq_true rfl) zd_SW_init_49 (fun H locs hP hD hS => ?_)
  have X : zz_X D vwCl [(i1, .int), (z1, .boolean), (i2, .int), (i3, .int), (i4, .int)] A s H locs (zwC_Pi q4 q3 (a4, i4, z4, (fun _ _ => 0)) ++ (zwC_Pr q3 (a3, i3, z3, (fun _ _ => 0)) ++ (zwC_Re q2 (a2, i2, z2, (fun v => outG (v - 3))) ++ (zwC_Me q1 (a1, i1, z1, outE) ++ [(h0, .inr (0, [.ref q1, .ref q2, .ref q3, .ref q4, .null, .null, .null, .null]))])))) := ⟨X.1, hP, hD, hS, X.2.2.2.2⟩
  refine lv_aload_n hx hb zd_SW_init_52 rfl (lv_at hl 0 rfl) ?_
  refine zr_new (ci := 5) (fs := [.null, .null, .null, .null, .int 0]) (C := zR_Fi) (T := zT_Fi) (N := 5) hx hb hown hts zi_Fi zt_Fi zo_Fi zin_SW_init_39 zik_Fi_init zij_Fi_init X rfl (fun j hj => by rcases (show j = 0 ∨ j = 1 ∨ j = 2 ∨ j = 3 ∨ j = 4 by omega) with rfl | rfl | rfl | rfl | rfl <;> rfl) ⟨Nat.le_of_ble_eq_true rfl, Nat.le_of_ble_eq_true rfl⟩ zd_SW_init_53 (fun q5 H X => ?_)
  refine lv_dup hx hb zd_SW_init_56 rfl ?_
  refine zr_ci (n := 0) (As := []) (rest := [.ref q5, .ref h0]) (ci := 5) hx hb hml hown hts hl.1 X (zk_Fi_init l D q5) zic_Fi_init zij_Fi_init zim_SW_init_41 zii_Fi_init rfl ⟨by decide +kernel, by decide +kernel, by decide +kernel⟩ rfl rfl (Nat.le_of_ble_eq_true rfl) ⟨rfl, rfl⟩ ⟨Nat.le_of_ble_eq_true rfl, Nat.le_of_ble_eq_true rfl⟩ ⟨Nat.le_of_ble_eq_true rfl, Nat.le_of_ble_eq_true rfl⟩ zd_SW_init_57 (fun u H locs hw X => ?_)
  obtain ⟨a5, i5, z5, s5⟩ := u
  have hw : s5 = (fun _ _ => 0) := hw
  subst s5
  have X : zz_X D vwCl [(i1, .int), (z1, .boolean), (i2, .int), (i3, .int), (i4, .int), (i5, .int)] A s H locs (zwC_Fi q5 (a5, i5, z5, (fun _ _ => 0)) ++ (zwC_Pi q4 q3 (a4, i4, z4, (fun _ _ => 0)) ++ (zwC_Pr q3 (a3, i3, z3, (fun _ _ => 0)) ++ (zwC_Re q2 (a2, i2, z2, (fun v => outG (v - 3))) ++ (zwC_Me q1 (a1, i1, z1, outE) ++ [(h0, .inr (0, [.ref q1, .ref q2, .ref q3, .ref q4, .null, .null, .null, .null]))]))))) := X
  refine va_putF (D := D) (ci := 0) (v := .ref q5) (ty := (.object "ShadowWarden$Findings")) (C := zR_SW) (T := zT_SW) (N := 8) hx hb hts zi_SW zt_SW zo_SW zn_SW hown X.1 X.2.1 X.2.2.1 X.2.2.2.1 20 rfl rfl 4 (by decide) (hts _ zif_SW_init_42) (fun _ h9 => h9) rfl hin rfl (by decide +kernel) rfl rfl (Nat.le_of_ble_eq_true rfl) zd_SW_init_60 (fun H locs hP hD hS => ?_)
  have X : zz_X D vwCl [(i1, .int), (z1, .boolean), (i2, .int), (i3, .int), (i4, .int), (i5, .int)] A s H locs (zwC_Fi q5 (a5, i5, z5, (fun _ _ => 0)) ++ (zwC_Pi q4 q3 (a4, i4, z4, (fun _ _ => 0)) ++ (zwC_Pr q3 (a3, i3, z3, (fun _ _ => 0)) ++ (zwC_Re q2 (a2, i2, z2, (fun v => outG (v - 3))) ++ (zwC_Me q1 (a1, i1, z1, outE) ++ [(h0, .inr (0, [.ref q1, .ref q2, .ref q3, .ref q4, .ref q5, .null, .null, .null]))]))))) := ⟨X.1, hP, hD, hS, X.2.2.2.2⟩
  refine lv_aload_n hx hb zd_SW_init_63 rfl (lv_at hl 0 rfl) ?_
  refine zr_new (ci := 6) (fs := [.null, .null, .null, .null, .null, .null, .int 0, .int 0, .int 0]) (C := zR_He) (T := zT_He) (N := 9) hx hb hown hts zi_He zt_He zo_He zin_SW_init_46 zik_He_init zij_He_init X rfl (fun j hj => by rcases (show j = 0 ∨ j = 1 ∨ j = 2 ∨ j = 3 ∨ j = 4 ∨ j = 5 ∨ j = 6 ∨ j = 7 ∨ j = 8 by omega) with rfl | rfl | rfl | rfl | rfl | rfl | rfl | rfl | rfl <;> rfl) ⟨Nat.le_of_ble_eq_true rfl, Nat.le_of_ble_eq_true rfl⟩ zd_SW_init_64 (fun q6 H X => ?_)
  refine lv_dup hx hb zd_SW_init_67 rfl ?_
  refine lv_aload_n hx hb zd_SW_init_68 rfl (lv_at hl 0 rfl) ?_
  refine va_get (D := D) (ci := 0) (v := .ref q1) (C := zR_SW) (T := zT_SW) (N := 8) hx hb hts zi_SW hown X.1 X.2.1 21 rfl rfl 0 (by decide) (hts _ zif_SW_init_10) (fun _ h9 => h9) rfl zd_SW_init_69 ?_
  refine zr_ci (n := 1) (As := [.ref q1]) (rest := [.ref q6, .ref h0]) (ci := 6) hx hb hml hown hts hl.1 X (zk_He_init l D q6 q1) zic_He_init zij_He_init zim_SW_init_48 zii_He_init rfl ⟨by decide +kernel, by decide +kernel, by decide +kernel⟩ rfl rfl (Nat.le_of_ble_eq_true rfl) ⟨rfl, rfl⟩ ⟨Nat.le_of_ble_eq_true rfl, Nat.le_of_ble_eq_true rfl⟩ ⟨Nat.le_of_ble_eq_true rfl, Nat.le_of_ble_eq_true rfl⟩ zd_SW_init_72 (fun u H locs hw X => ?_)
  obtain ⟨a6, i6, z6, s6⟩ := u
  have hw : s6 = (fun _ _ => 0) := hw
  subst s6
  have X : zz_X D vwCl [(i1, .int), (z1, .boolean), (i2, .int), (i3, .int), (i4, .int), (i5, .int), (i6, .int)] A s H locs (zwC_He q6 q1 (a6, i6, z6, (fun _ _ => 0)) ++ (zwC_Fi q5 (a5, i5, z5, (fun _ _ => 0)) ++ (zwC_Pi q4 q3 (a4, i4, z4, (fun _ _ => 0)) ++ (zwC_Pr q3 (a3, i3, z3, (fun _ _ => 0)) ++ (zwC_Re q2 (a2, i2, z2, (fun v => outG (v - 3))) ++ (zwC_Me q1 (a1, i1, z1, outE) ++ [(h0, .inr (0, [.ref q1, .ref q2, .ref q3, .ref q4, .ref q5, .null, .null, .null]))])))))) := X
  refine va_putF (D := D) (ci := 0) (v := .ref q6) (ty := (.object "ShadowWarden$Heap")) (C := zR_SW) (T := zT_SW) (N := 8) hx hb hts zi_SW zt_SW zo_SW zn_SW hown X.1 X.2.1 X.2.2.1 X.2.2.2.1 26 rfl rfl 5 (by decide) (hts _ zif_SW_init_51) (fun _ h9 => h9) rfl hin rfl (by decide +kernel) rfl rfl (Nat.le_of_ble_eq_true rfl) zd_SW_init_75 (fun H locs hP hD hS => ?_)
  have X : zz_X D vwCl [(i1, .int), (z1, .boolean), (i2, .int), (i3, .int), (i4, .int), (i5, .int), (i6, .int)] A s H locs (zwC_He q6 q1 (a6, i6, z6, (fun _ _ => 0)) ++ (zwC_Fi q5 (a5, i5, z5, (fun _ _ => 0)) ++ (zwC_Pi q4 q3 (a4, i4, z4, (fun _ _ => 0)) ++ (zwC_Pr q3 (a3, i3, z3, (fun _ _ => 0)) ++ (zwC_Re q2 (a2, i2, z2, (fun v => outG (v - 3))) ++ (zwC_Me q1 (a1, i1, z1, outE) ++ [(h0, .inr (0, [.ref q1, .ref q2, .ref q3, .ref q4, .ref q5, .ref q6, .null, .null]))])))))) := ⟨X.1, hP, hD, hS, X.2.2.2.2⟩
  refine lv_aload_n hx hb zd_SW_init_78 rfl (lv_at hl 0 rfl) ?_
  refine zr_new (ci := 7) (fs := [.null, .null, .null, .null, .null, .int 0]) (C := zR_LS) (T := zT_LS) (N := 6) hx hb hown hts zi_LS zt_LS zo_LS zin_SW_init_55 zik_LS_init zij_LS_init X rfl (fun j hj => by rcases (show j = 0 ∨ j = 1 ∨ j = 2 ∨ j = 3 ∨ j = 4 ∨ j = 5 by omega) with rfl | rfl | rfl | rfl | rfl | rfl <;> rfl) ⟨Nat.le_of_ble_eq_true rfl, Nat.le_of_ble_eq_true rfl⟩ zd_SW_init_79 (fun q7 H X => ?_)
  refine lv_dup hx hb zd_SW_init_82 rfl ?_
  refine lv_aload_n hx hb zd_SW_init_83 rfl (lv_at hl 0 rfl) ?_
  refine va_get (D := D) (ci := 0) (v := .ref q1) (C := zR_SW) (T := zT_SW) (N := 8) hx hb hts zi_SW hown X.1 X.2.1 27 rfl rfl 0 (by decide) (hts _ zif_SW_init_10) (fun _ h9 => h9) rfl zd_SW_init_84 ?_
  refine lv_aload_n hx hb zd_SW_init_87 rfl (lv_at hl 0 rfl) ?_
  refine va_get (D := D) (ci := 0) (v := .ref q2) (C := zR_SW) (T := zT_SW) (N := 8) hx hb hts zi_SW hown X.1 X.2.1 27 rfl rfl 1 (by decide) (hts _ zif_SW_init_19) (fun _ h9 => h9) rfl zd_SW_init_88 ?_
  refine lv_aload_n hx hb zd_SW_init_91 rfl (lv_at hl 0 rfl) ?_
  refine va_get (D := D) (ci := 0) (v := .ref q6) (C := zR_SW) (T := zT_SW) (N := 8) hx hb hts zi_SW hown X.1 X.2.1 27 rfl rfl 5 (by decide) (hts _ zif_SW_init_51) (fun _ h9 => h9) rfl zd_SW_init_92 ?_
  refine zr_ci (n := 3) (As := [.ref q1, .ref q2, .ref q6]) (rest := [.ref q7, .ref h0]) (ci := 7) hx hb hml hown hts hl.1 X (zk_LS_init l D q7 q1 q2 q6) zic_LS_init zij_LS_init zim_SW_init_57 zii_LS_init rfl ⟨by decide +kernel, by decide +kernel, by decide +kernel⟩ rfl rfl (Nat.le_of_ble_eq_true rfl) ⟨rfl, rfl⟩ ⟨Nat.le_of_ble_eq_true rfl, Nat.le_of_ble_eq_true rfl⟩ ⟨Nat.le_of_ble_eq_true rfl, Nat.le_of_ble_eq_true rfl⟩ zd_SW_init_95 (fun u H locs hw X => ?_)
  obtain ⟨a7, i7, z7, s7⟩ := u
  have hw : s7 = (fun _ _ => 0) := hw
  subst s7
  have X : zz_X D vwCl [(i1, .int), (z1, .boolean), (i2, .int), (i3, .int), (i4, .int), (i5, .int), (i6, .int), (i7, .int)] A s H locs (zwC_LS q7 q1 q2 q6 (a7, i7, z7, (fun _ _ => 0)) ++ (zwC_He q6 q1 (a6, i6, z6, (fun _ _ => 0)) ++ (zwC_Fi q5 (a5, i5, z5, (fun _ _ => 0)) ++ (zwC_Pi q4 q3 (a4, i4, z4, (fun _ _ => 0)) ++ (zwC_Pr q3 (a3, i3, z3, (fun _ _ => 0)) ++ (zwC_Re q2 (a2, i2, z2, (fun v => outG (v - 3))) ++ (zwC_Me q1 (a1, i1, z1, outE) ++ [(h0, .inr (0, [.ref q1, .ref q2, .ref q3, .ref q4, .ref q5, .ref q6, .null, .null]))]))))))) := X
  refine va_putF (D := D) (ci := 0) (v := .ref q7) (ty := (.object "ShadowWarden$LeakScan")) (C := zR_SW) (T := zT_SW) (N := 8) hx hb hts zi_SW zt_SW zo_SW zn_SW hown X.1 X.2.1 X.2.2.1 X.2.2.2.1 29 rfl rfl 6 (by decide) (hts _ zif_SW_init_60) (fun _ h9 => h9) rfl hin rfl (by decide +kernel) rfl rfl (Nat.le_of_ble_eq_true rfl) zd_SW_init_98 (fun H locs hP hD hS => ?_)
  have X : zz_X D vwCl [(i1, .int), (z1, .boolean), (i2, .int), (i3, .int), (i4, .int), (i5, .int), (i6, .int), (i7, .int)] A s H locs (zwC_LS q7 q1 q2 q6 (a7, i7, z7, (fun _ _ => 0)) ++ (zwC_He q6 q1 (a6, i6, z6, (fun _ _ => 0)) ++ (zwC_Fi q5 (a5, i5, z5, (fun _ _ => 0)) ++ (zwC_Pi q4 q3 (a4, i4, z4, (fun _ _ => 0)) ++ (zwC_Pr q3 (a3, i3, z3, (fun _ _ => 0)) ++ (zwC_Re q2 (a2, i2, z2, (fun v => outG (v - 3))) ++ (zwC_Me q1 (a1, i1, z1, outE) ++ [(h0, .inr (0, [.ref q1, .ref q2, .ref q3, .ref q4, .ref q5, .ref q6, .ref q7, .null]))]))))))) := ⟨X.1, hP, hD, hS, X.2.2.2.2⟩
  refine lv_aload_n hx hb zd_SW_init_101 rfl (lv_at hl 0 rfl) ?_
  refine zr_new (ci := 8) (fs := [.null, .null, .null, .null, .null, .null, .int 0, .int 0, .int 0, .int 0, .int 0]) (C := zR_Ma) (T := zT_Ma) (N := 11) hx hb hown hts zi_Ma zt_Ma zo_Ma zin_SW_init_64 zik_Ma_init zij_Ma_init X rfl (fun j hj => by rcases (show j = 0 ∨ j = 1 ∨ j = 2 ∨ j = 3 ∨ j = 4 ∨ j = 5 ∨ j = 6 ∨ j = 7 ∨ j = 8 ∨ j = 9 ∨ j = 10 by omega) with rfl | rfl | rfl | rfl | rfl | rfl | rfl | rfl | rfl | rfl | rfl <;> rfl) ⟨Nat.le_of_ble_eq_true rfl, Nat.le_of_ble_eq_true rfl⟩ zd_SW_init_102 (fun q8 H X => ?_)
  refine lv_dup hx hb zd_SW_init_105 rfl ?_
  refine lv_aload_n hx hb zd_SW_init_106 rfl (lv_at hl 0 rfl) ?_
  refine va_get (D := D) (ci := 0) (v := .ref q1) (C := zR_SW) (T := zT_SW) (N := 8) hx hb hts zi_SW hown X.1 X.2.1 30 rfl rfl 0 (by decide) (hts _ zif_SW_init_10) (fun _ h9 => h9) rfl zd_SW_init_107 ?_
  refine lv_aload_n hx hb zd_SW_init_110 rfl (lv_at hl 0 rfl) ?_
  refine va_get (D := D) (ci := 0) (v := .ref q2) (C := zR_SW) (T := zT_SW) (N := 8) hx hb hts zi_SW hown X.1 X.2.1 30 rfl rfl 1 (by decide) (hts _ zif_SW_init_19) (fun _ h9 => h9) rfl zd_SW_init_111 ?_
  refine lv_aload_n hx hb zd_SW_init_114 rfl (lv_at hl 0 rfl) ?_
  refine va_get (D := D) (ci := 0) (v := .ref q3) (C := zR_SW) (T := zT_SW) (N := 8) hx hb hts zi_SW hown X.1 X.2.1 30 rfl rfl 2 (by decide) (hts _ zif_SW_init_26) (fun _ h9 => h9) rfl zd_SW_init_115 ?_
  refine lv_aload_n hx hb zd_SW_init_118 rfl (lv_at hl 0 rfl) ?_
  refine va_get (D := D) (ci := 0) (v := .ref q4) (C := zR_SW) (T := zT_SW) (N := 8) hx hb hts zi_SW hown X.1 X.2.1 30 rfl rfl 3 (by decide) (hts _ zif_SW_init_35) (fun _ h9 => h9) rfl zd_SW_init_119 ?_
  refine lv_aload_n hx hb zd_SW_init_122 rfl (lv_at hl 0 rfl) ?_
  refine va_get (D := D) (ci := 0) (v := .ref q5) (C := zR_SW) (T := zT_SW) (N := 8) hx hb hts zi_SW hown X.1 X.2.1 30 rfl rfl 4 (by decide) (hts _ zif_SW_init_42) (fun _ h9 => h9) rfl zd_SW_init_123 ?_
  refine lv_aload_n hx hb zd_SW_init_126 rfl (lv_at hl 0 rfl) ?_
  refine va_get (D := D) (ci := 0) (v := .ref q6) (C := zR_SW) (T := zT_SW) (N := 8) hx hb hts zi_SW hown X.1 X.2.1 30 rfl rfl 5 (by decide) (hts _ zif_SW_init_51) (fun _ h9 => h9) rfl zd_SW_init_127 ?_
  refine zr_ci (n := 6) (As := [.ref q1, .ref q2, .ref q3, .ref q4, .ref q5, .ref q6]) (rest := [.ref q8, .ref h0]) (ci := 8) hx hb hml hown hts hl.1 X (zk_Ma_init l D q8 q1 q2 q3 q4 q5 q6) zic_Ma_init zij_Ma_init zim_SW_init_66 zii_Ma_init rfl ⟨by decide +kernel, by decide +kernel, by decide +kernel⟩ rfl rfl (Nat.le_of_ble_eq_true rfl) ⟨rfl, rfl⟩ ⟨Nat.le_of_ble_eq_true rfl, Nat.le_of_ble_eq_true rfl⟩ ⟨Nat.le_of_ble_eq_true rfl, Nat.le_of_ble_eq_true rfl⟩ zd_SW_init_130 (fun u H locs hw X => ?_)
  obtain ⟨a8, i8, z8, s8⟩ := u
  have hw : s8 = zz_put (fun _ _ => 0) 31 0 1 := hw
  subst s8
  have X : zz_X D vwCl [(i1, .int), (z1, .boolean), (i2, .int), (i3, .int), (i4, .int), (i5, .int), (i6, .int), (i7, .int)] A s H locs (zwC_Ma q8 q1 q2 q3 q4 q5 q6 (a8, i8, z8, zz_put (fun _ _ => 0) 31 0 1) ++ (zwC_LS q7 q1 q2 q6 (a7, i7, z7, (fun _ _ => 0)) ++ (zwC_He q6 q1 (a6, i6, z6, (fun _ _ => 0)) ++ (zwC_Fi q5 (a5, i5, z5, (fun _ _ => 0)) ++ (zwC_Pi q4 q3 (a4, i4, z4, (fun _ _ => 0)) ++ (zwC_Pr q3 (a3, i3, z3, (fun _ _ => 0)) ++ (zwC_Re q2 (a2, i2, z2, (fun v => outG (v - 3))) ++ (zwC_Me q1 (a1, i1, z1, outE) ++ [(h0, .inr (0, [.ref q1, .ref q2, .ref q3, .ref q4, .ref q5, .ref q6, .ref q7, .null]))])))))))) := X
  refine va_putF (D := D) (ci := 0) (v := .ref q8) (ty := (.object "ShadowWarden$Machine")) (C := zR_SW) (T := zT_SW) (N := 8) hx hb hts zi_SW zt_SW zo_SW zn_SW hown X.1 X.2.1 X.2.2.1 X.2.2.2.1 30 rfl rfl 7 (by decide) (hts _ zif_SW_init_69) (fun _ h9 => h9) rfl hin rfl (by decide +kernel) rfl rfl (Nat.le_of_ble_eq_true rfl) zd_SW_init_133 (fun H locs hP hD hS => ?_)
  have X : zz_X D vwCl [(i1, .int), (z1, .boolean), (i2, .int), (i3, .int), (i4, .int), (i5, .int), (i6, .int), (i7, .int)] A s H locs (zwC_Ma q8 q1 q2 q3 q4 q5 q6 (a8, i8, z8, zz_put (fun _ _ => 0) 31 0 1) ++ (zwC_LS q7 q1 q2 q6 (a7, i7, z7, (fun _ _ => 0)) ++ (zwC_He q6 q1 (a6, i6, z6, (fun _ _ => 0)) ++ (zwC_Fi q5 (a5, i5, z5, (fun _ _ => 0)) ++ (zwC_Pi q4 q3 (a4, i4, z4, (fun _ _ => 0)) ++ (zwC_Pr q3 (a3, i3, z3, (fun _ _ => 0)) ++ (zwC_Re q2 (a2, i2, z2, (fun v => outG (v - 3))) ++ (zwC_Me q1 (a1, i1, z1, outE) ++ [(h0, .inr (0, [.ref q1, .ref q2, .ref q3, .ref q4, .ref q5, .ref q6, .ref q7, .ref q8]))])))))))) := ⟨X.1, hP, hD, hS, X.2.2.2.2⟩
  have e2 : i1 = i2 := zc_uI X.1 0 2 rfl rfl
  have e3 : i1 = i3 := zc_uI X.1 0 3 rfl rfl
  have e4 : i1 = i4 := zc_uI X.1 0 4 rfl rfl
  have e5 : i1 = i5 := zc_uI X.1 0 5 rfl rfl
  have e6 : i1 = i6 := zc_uI X.1 0 6 rfl rfl
  have e7 : i1 = i7 := zc_uI X.1 0 7 rfl rfl
  subst e2
  subst e3
  subst e4
  subst e5
  subst e6
  subst e7
  have hP9 := X.2.1.sub (ws' := wS (fun k => match k with | 0 => h0 | 1 => q1 | 2 => (a1 0) | 3 => (a1 1) | 4 => (a1 2) | 5 => q2 | 6 => (a2 0) | 7 => (a2 1) | 8 => q3 | 9 => (a3 0) | 10 => (a3 1) | 11 => (a3 2) | 12 => (a3 3) | 13 => (a3 4) | 14 => q4 | 15 => (a4 0) | 16 => q5 | 17 => (a5 0) | 18 => (a5 1) | 19 => (a5 2) | 20 => (a5 3) | 21 => q6 | 22 => (a6 0) | 23 => (a6 1) | 24 => (a6 2) | 25 => (a6 3) | 26 => (a6 4) | 27 => q7 | 28 => (a7 0) | 29 => (a7 1) | _ => q8) i1 z1 (zSW0 outE outG)) [30, 26, 27, 28, 29, 23, 24, 25, 17, 18, 19, 20, 21, 22, 15, 16, 10, 11, 12, 13, 14, 4, 5, 6, 7, 8, 9, 1, 2, 3, 0] rfl
  have hD9 := X.2.2.1.sub (ws' := wS (fun k => match k with | 0 => h0 | 1 => q1 | 2 => (a1 0) | 3 => (a1 1) | 4 => (a1 2) | 5 => q2 | 6 => (a2 0) | 7 => (a2 1) | 8 => q3 | 9 => (a3 0) | 10 => (a3 1) | 11 => (a3 2) | 12 => (a3 3) | 13 => (a3 4) | 14 => q4 | 15 => (a4 0) | 16 => q5 | 17 => (a5 0) | 18 => (a5 1) | 19 => (a5 2) | 20 => (a5 3) | 21 => q6 | 22 => (a6 0) | 23 => (a6 1) | 24 => (a6 2) | 25 => (a6 3) | 26 => (a6 4) | 27 => q7 | 28 => (a7 0) | 29 => (a7 1) | _ => q8) i1 z1 (zSW0 outE outG)) [30, 26, 27, 28, 29, 23, 24, 25, 17, 18, 19, 20, 21, 22, 15, 16, 10, 11, 12, 13, 14, 4, 5, 6, 7, 8, 9, 1, 2, 3, 0] (by decide) rfl
  exact zr_cret hx hb hr hlocks ((fun k => match k with | 0 => h0 | 1 => q1 | 2 => (a1 0) | 3 => (a1 1) | 4 => (a1 2) | 5 => q2 | 6 => (a2 0) | 7 => (a2 1) | 8 => q3 | 9 => (a3 0) | 10 => (a3 1) | 11 => (a3 2) | 12 => (a3 3) | 13 => (a3 4) | 14 => q4 | 15 => (a4 0) | 16 => q5 | 17 => (a5 0) | 18 => (a5 1) | 19 => (a5 2) | 20 => (a5 3) | 21 => q6 | 22 => (a6 0) | 23 => (a6 1) | 24 => (a6 2) | 25 => (a6 3) | 26 => (a6 4) | 27 => q7 | 28 => (a7 0) | 29 => (a7 1) | _ => q8), i1, z1, zSW0 outE outG) ⟨rfl, rfl⟩ ⟨X.1, hP9, hD9, X.2.2.2.1, X.2.2.2.2⟩ rfl [0, 1] rfl ⟨Nat.le_of_ble_eq_true rfl, Nat.le_of_ble_eq_true rfl⟩ zd_SW_init_136

