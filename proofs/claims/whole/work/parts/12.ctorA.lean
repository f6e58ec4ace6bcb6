set_option maxRecDepth 20000 in
set_option maxHeartbeats 4000000 in
theorem c3_X2_init : Mt 2 (yX2_init, cX2_init, 1, none) [.ref 4] 4 H_1 none 6 H_3 := by
  refine Mt.of (by decide +kernel) (by decide) (Nat.le_of_ble_eq_true rfl) ?_
  show Ev 2 (yX2_init, cX2_init, 1, none) 4 none 6 H_3 0 4 [(0, .ref 4)] [] H_1
  refine e_aload_n dX2_init_0 0 rfl rfl (pc2 := 1) rfl ?_
  refine e_obji dX2_init_1 (TG_t1 46 (by decide +kernel) rfl) tgo_1 tgo_2 (by decide) (Nat.le_of_ble_eq_true rfl) (pc2 := 4) rfl ?_
  refine e_aload_n dX2_init_4 0 rfl rfl (pc2 := 5) rfl ?_
  refine e_sipush (x := 1000) dX2_init_5 (by decide) (pc2 := 8) rfl ?_
  refine e_newI (m0 := 1000) dX2_init_8 (by decide) (by decide) (by decide) (TG_t1 58 (by decide +kernel) rfl) rfl hb_1_4 ⟨by decide, by decide, by decide⟩ (by simp [okr]) (by simp [okr]) (pc2 := 10) rfl ?_
  refine e_putRF fl_X2_9 dX2_init_10 ⟨by decide, by decide, rfl⟩ fn_2_0 rfl rc_2 frc_2_0 (by decide) (h2 := H_2) rfl (pc2 := 13) rfl ?_
  refine e_aload_n dX2_init_13 0 rfl rfl (pc2 := 14) rfl ?_
  refine e_bipush (x := 32) dX2_init_14 (by decide) (pc2 := 16) rfl ?_
  refine e_newI (m0 := 32) dX2_init_16 (by decide) (by decide) (by decide) (TG_t1 58 (by decide +kernel) rfl) rfl hb_2_5 ⟨by decide, by decide, by decide⟩ (by simp [okr]) (by simp [okr]) (pc2 := 18) rfl ?_
  refine e_putRF fl_X2_15 dX2_init_18 ⟨by decide, by decide, rfl⟩ fn_2_2 rfl rc_2 frc_2_2 (by decide) (h2 := H_3) rfl (pc2 := 21) rfl ?_
  exact e_vret rfl dX2_init_21
set_option maxRecDepth 20000 in
set_option maxHeartbeats 4000000 in
theorem c4_X4_clear : Mt 1 (yX4_clear, cX4_clear, 1, none) [.ref 2] 10 H_8 none 10 H_23 := by
  refine Mt.of (by decide +kernel) (by decide) (Nat.le_of_ble_eq_true rfl) ?_
  show Ev 1 (yX4_clear, cX4_clear, 1, none) 10 none 10 H_23 0 10 [(0, .ref 2)] [] H_8
  refine e_aload_n dX4_clear_0 0 rfl rfl (pc2 := 1) rfl ?_
  refine e_sipush (x := 600) dX4_clear_1 (by decide) (pc2 := 4) rfl ?_
  refine e_putI fl_X4_46 dX4_clear_4 ⟨by decide, by decide, rfl⟩ fn_4_0 (h2 := H_9) rfl (pc2 := 7) rfl ?_
  refine e_aload_n dX4_clear_7 0 rfl rfl (pc2 := 8) rfl ?_
  refine e_sipush (x := 540) dX4_clear_8 (by decide) (pc2 := 11) rfl ?_
  refine e_putI fl_X4_50 dX4_clear_11 ⟨by decide, by decide, rfl⟩ fn_4_1 (h2 := H_10) rfl (pc2 := 14) rfl ?_
  refine e_aload_n dX4_clear_14 0 rfl rfl (pc2 := 15) rfl ?_
  refine e_iconst (x := 2) dX4_clear_15 (by decide) (pc2 := 16) rfl ?_
  refine e_putI fl_X4_53 dX4_clear_16 ⟨by decide, by decide, rfl⟩ fn_4_2 (h2 := H_11) rfl (pc2 := 19) rfl ?_
  refine e_aload_n dX4_clear_19 0 rfl rfl (pc2 := 20) rfl ?_
  refine e_bipush (x := 10) dX4_clear_20 (by decide) (pc2 := 22) rfl ?_
  refine e_putI fl_X4_56 dX4_clear_22 ⟨by decide, by decide, rfl⟩ fn_4_3 (h2 := H_12) rfl (pc2 := 25) rfl ?_
  refine e_aload_n dX4_clear_25 0 rfl rfl (pc2 := 26) rfl ?_
  refine e_bipush (x := 60) dX4_clear_26 (by decide) (pc2 := 28) rfl ?_
  refine e_putI fl_X4_59 dX4_clear_28 ⟨by decide, by decide, rfl⟩ fn_4_4 (h2 := H_13) rfl (pc2 := 31) rfl ?_
  refine e_aload_n dX4_clear_31 0 rfl rfl (pc2 := 32) rfl ?_
  refine e_bipush (x := 30) dX4_clear_32 (by decide) (pc2 := 34) rfl ?_
  refine e_putI fl_X4_62 dX4_clear_34 ⟨by decide, by decide, rfl⟩ fn_4_5 (h2 := H_14) rfl (pc2 := 37) rfl ?_
  refine e_aload_n dX4_clear_37 0 rfl rfl (pc2 := 38) rfl ?_
  refine e_iconst (x := 5) dX4_clear_38 (by decide) (pc2 := 39) rfl ?_
  refine e_putI fl_X4_65 dX4_clear_39 ⟨by decide, by decide, rfl⟩ fn_4_6 (h2 := H_15) rfl (pc2 := 42) rfl ?_
  refine e_aload_n dX4_clear_42 0 rfl rfl (pc2 := 43) rfl ?_
  refine e_getR (r := 3) fl_X4_9 dX4_clear_43 ⟨by decide, by decide, rfl⟩ (by decide +kernel) (by decide) (pc2 := 46) rfl ?_
  refine e_iconst (x := 0) dX4_clear_46 (by decide) (pc2 := 47) rfl ?_
  refine e_bipush (x := 10) dX4_clear_47 (by decide) (pc2 := 49) rfl ?_
  refine e_iast dX4_clear_49 ⟨by decide, by decide, rfl⟩ (inb_v (by decide)) (h2 := H_16) rfl (pc2 := 50) rfl ?_
  refine e_aload_n dX4_clear_50 0 rfl rfl (pc2 := 51) rfl ?_
  refine e_getR (r := 3) fl_X4_9 dX4_clear_51 ⟨by decide, by decide, rfl⟩ (by decide +kernel) (by decide) (pc2 := 54) rfl ?_
  refine e_iconst (x := 1) dX4_clear_54 (by decide) (pc2 := 55) rfl ?_
  refine e_iconst (x := 0) dX4_clear_55 (by decide) (pc2 := 56) rfl ?_
  refine e_iast dX4_clear_56 ⟨by decide, by decide, rfl⟩ (inb_v (by decide)) (h2 := H_17) rfl (pc2 := 57) rfl ?_
  refine e_aload_n dX4_clear_57 0 rfl rfl (pc2 := 58) rfl ?_
  refine e_getR (r := 3) fl_X4_9 dX4_clear_58 ⟨by decide, by decide, rfl⟩ (by decide +kernel) (by decide) (pc2 := 61) rfl ?_
  refine e_iconst (x := 2) dX4_clear_61 (by decide) (pc2 := 62) rfl ?_
  refine e_iconst (x := 0) dX4_clear_62 (by decide) (pc2 := 63) rfl ?_
  refine e_iast dX4_clear_63 ⟨by decide, by decide, rfl⟩ (inb_v (by decide)) (h2 := H_18) rfl (pc2 := 64) rfl ?_
  refine e_aload_n dX4_clear_64 0 rfl rfl (pc2 := 65) rfl ?_
  refine e_getR (r := 3) fl_X4_9 dX4_clear_65 ⟨by decide, by decide, rfl⟩ (by decide +kernel) (by decide) (pc2 := 68) rfl ?_
  refine e_iconst (x := 3) dX4_clear_68 (by decide) (pc2 := 69) rfl ?_
  refine e_iconst (x := 0) dX4_clear_69 (by decide) (pc2 := 70) rfl ?_
  refine e_iast dX4_clear_70 ⟨by decide, by decide, rfl⟩ (inb_v (by decide)) (h2 := H_19) rfl (pc2 := 71) rfl ?_
  refine e_aload_n dX4_clear_71 0 rfl rfl (pc2 := 72) rfl ?_
  refine e_getR (r := 4) fl_X4_18 dX4_clear_72 ⟨by decide, by decide, rfl⟩ (by decide +kernel) (by decide) (pc2 := 75) rfl ?_
  refine e_iconst (x := 0) dX4_clear_75 (by decide) (pc2 := 76) rfl ?_
  refine e_putI fl_X4_68 dX4_clear_76 ⟨by decide, by decide, rfl⟩ fn_2_1 (h2 := H_20) rfl (pc2 := 79) rfl ?_
  refine e_aload_n dX4_clear_79 0 rfl rfl (pc2 := 80) rfl ?_
  refine e_iconst (x := 0) dX4_clear_80 (by decide) (pc2 := 81) rfl ?_
  refine e_putI fl_X4_71 dX4_clear_81 ⟨by decide, by decide, rfl⟩ fn_4_9 (h2 := H_21) rfl (pc2 := 84) rfl ?_
  refine e_aload_n dX4_clear_84 0 rfl rfl (pc2 := 85) rfl ?_
  refine e_iconst (x := 0) dX4_clear_85 (by decide) (pc2 := 86) rfl ?_
  refine e_putI fl_X4_74 dX4_clear_86 ⟨by decide, by decide, rfl⟩ fn_4_12 (h2 := H_22) rfl (pc2 := 89) rfl ?_
  refine e_aload_n dX4_clear_89 0 rfl rfl (pc2 := 90) rfl ?_
  refine e_iconst (x := 0) dX4_clear_90 (by decide) (pc2 := 91) rfl ?_
  refine e_putI fl_X4_77 dX4_clear_91 ⟨by decide, by decide, rfl⟩ fn_4_14 (h2 := H_23) rfl (pc2 := 94) rfl ?_
  exact e_vret rfl dX4_clear_94
set_option maxRecDepth 20000 in
set_option maxHeartbeats 4000000 in
theorem c5_X9_init : Mt 2 (yX9_init, cX9_init, 1, none) [.ref 11] 11 H_23 none 11 H_23 := by
  refine Mt.of (by decide +kernel) (by decide) (Nat.le_of_ble_eq_true rfl) ?_
  show Ev 2 (yX9_init, cX9_init, 1, none) 11 none 11 H_23 0 11 [(0, .ref 11)] [] H_23
  refine e_aload_n dX9_init_0 0 rfl rfl (pc2 := 1) rfl ?_
  refine e_obji dX9_init_1 (TG_t1 71 (by decide +kernel) rfl) tgo_1 tgo_2 (by decide) (Nat.le_of_ble_eq_true rfl) (pc2 := 4) rfl ?_
  exact e_vret rfl dX9_init_4
set_option maxRecDepth 20000 in
set_option maxHeartbeats 4000000 in
theorem c6_X9_init : Mt 2 (yX9_init, cX9_init, 1, none) [.ref 12] 12 H_24 none 12 H_24 := by
  refine Mt.of (by decide +kernel) (by decide) (Nat.le_of_ble_eq_true rfl) ?_
  show Ev 2 (yX9_init, cX9_init, 1, none) 12 none 12 H_24 0 12 [(0, .ref 12)] [] H_24
  refine e_aload_n dX9_init_0 0 rfl rfl (pc2 := 1) rfl ?_
  refine e_obji dX9_init_1 (TG_t1 71 (by decide +kernel) rfl) tgo_1 tgo_2 (by decide) (Nat.le_of_ble_eq_true rfl) (pc2 := 4) rfl ?_
  exact e_vret rfl dX9_init_4
set_option maxRecDepth 20000 in
set_option maxHeartbeats 4000000 in
theorem c7_X9_init : Mt 2 (yX9_init, cX9_init, 1, none) [.ref 13] 13 H_25 none 13 H_25 := by
  refine Mt.of (by decide +kernel) (by decide) (Nat.le_of_ble_eq_true rfl) ?_
  show Ev 2 (yX9_init, cX9_init, 1, none) 13 none 13 H_25 0 13 [(0, .ref 13)] [] H_25
  refine e_aload_n dX9_init_0 0 rfl rfl (pc2 := 1) rfl ?_
  refine e_obji dX9_init_1 (TG_t1 71 (by decide +kernel) rfl) tgo_1 tgo_2 (by decide) (Nat.le_of_ble_eq_true rfl) (pc2 := 4) rfl ?_
  exact e_vret rfl dX9_init_4
set_option maxRecDepth 20000 in
set_option maxHeartbeats 4000000 in
theorem c8_X9_init : Mt 2 (yX9_init, cX9_init, 1, none) [.ref 14] 14 H_26 none 14 H_26 := by
  refine Mt.of (by decide +kernel) (by decide) (Nat.le_of_ble_eq_true rfl) ?_
  show Ev 2 (yX9_init, cX9_init, 1, none) 14 none 14 H_26 0 14 [(0, .ref 14)] [] H_26
  refine e_aload_n dX9_init_0 0 rfl rfl (pc2 := 1) rfl ?_
  refine e_obji dX9_init_1 (TG_t1 71 (by decide +kernel) rfl) tgo_1 tgo_2 (by decide) (Nat.le_of_ble_eq_true rfl) (pc2 := 4) rfl ?_
  exact e_vret rfl dX9_init_4
set_option maxRecDepth 20000 in
set_option maxHeartbeats 4000000 in
theorem c9_X9_init : Mt 2 (yX9_init, cX9_init, 1, none) [.ref 15] 15 H_27 none 15 H_27 := by
  refine Mt.of (by decide +kernel) (by decide) (Nat.le_of_ble_eq_true rfl) ?_
  show Ev 2 (yX9_init, cX9_init, 1, none) 15 none 15 H_27 0 15 [(0, .ref 15)] [] H_27
  refine e_aload_n dX9_init_0 0 rfl rfl (pc2 := 1) rfl ?_
  refine e_obji dX9_init_1 (TG_t1 71 (by decide +kernel) rfl) tgo_1 tgo_2 (by decide) (Nat.le_of_ble_eq_true rfl) (pc2 := 4) rfl ?_
  exact e_vret rfl dX9_init_4
set_option maxRecDepth 20000 in
set_option maxHeartbeats 4000000 in
theorem c10_X0_init : Mt 2 (yX0_init, cX0_init, 1, none) [.ref 16] 16 H_28 none 17 H_29 := by
  refine Mt.of (by decide +kernel) (by decide) (Nat.le_of_ble_eq_true rfl) ?_
  show Ev 2 (yX0_init, cX0_init, 1, none) 16 none 17 H_29 0 16 [(0, .ref 16)] [] H_28
  refine e_aload_n dX0_init_0 0 rfl rfl (pc2 := 1) rfl ?_
  refine e_obji dX0_init_1 (TG_t1 108 (by decide +kernel) rfl) tgo_1 tgo_2 (by decide) (Nat.le_of_ble_eq_true rfl) (pc2 := 4) rfl ?_
  refine e_aload_n dX0_init_4 0 rfl rfl (pc2 := 5) rfl ?_
  refine e_iconst (x := 3) dX0_init_5 (by decide) (pc2 := 6) rfl ?_
  refine e_newI (m0 := 3) dX0_init_6 (by decide) (by decide) (by decide) (TG_t1 58 (by decide +kernel) rfl) rfl hb_28_16 ⟨by decide, by decide, by decide⟩ (by simp [okr]) (by simp [okr]) (pc2 := 8) rfl ?_
  refine e_putRF fl_X0_9 dX0_init_8 ⟨by decide, by decide, rfl⟩ fn_0_5 rfl rc_0 frc_0_5 (by decide) (h2 := H_29) rfl (pc2 := 11) rfl ?_
  exact e_vret rfl dX0_init_11
set_option maxRecDepth 20000 in
set_option maxHeartbeats 4000000 in
theorem c11_X0_init : Mt 2 (yX0_init, cX0_init, 1, none) [.ref 18] 18 H_30 none 19 H_31 := by
  refine Mt.of (by decide +kernel) (by decide) (Nat.le_of_ble_eq_true rfl) ?_
  show Ev 2 (yX0_init, cX0_init, 1, none) 18 none 19 H_31 0 18 [(0, .ref 18)] [] H_30
  refine e_aload_n dX0_init_0 0 rfl rfl (pc2 := 1) rfl ?_
  refine e_obji dX0_init_1 (TG_t1 108 (by decide +kernel) rfl) tgo_1 tgo_2 (by decide) (Nat.le_of_ble_eq_true rfl) (pc2 := 4) rfl ?_
  refine e_aload_n dX0_init_4 0 rfl rfl (pc2 := 5) rfl ?_
  refine e_iconst (x := 3) dX0_init_5 (by decide) (pc2 := 6) rfl ?_
  refine e_newI (m0 := 3) dX0_init_6 (by decide) (by decide) (by decide) (TG_t1 58 (by decide +kernel) rfl) rfl hb_30_18 ⟨by decide, by decide, by decide⟩ (by simp [okr]) (by simp [okr]) (pc2 := 8) rfl ?_
  refine e_putRF fl_X0_9 dX0_init_8 ⟨by decide, by decide, rfl⟩ fn_0_5 rfl rc_0 frc_0_5 (by decide) (h2 := H_31) rfl (pc2 := 11) rfl ?_
  exact e_vret rfl dX0_init_11
set_option maxRecDepth 20000 in
set_option maxHeartbeats 4000000 in
theorem c12_X0_init : Mt 2 (yX0_init, cX0_init, 1, none) [.ref 20] 20 H_32 none 21 H_33 := by
  refine Mt.of (by decide +kernel) (by decide) (Nat.le_of_ble_eq_true rfl) ?_
  show Ev 2 (yX0_init, cX0_init, 1, none) 20 none 21 H_33 0 20 [(0, .ref 20)] [] H_32
  refine e_aload_n dX0_init_0 0 rfl rfl (pc2 := 1) rfl ?_
  refine e_obji dX0_init_1 (TG_t1 108 (by decide +kernel) rfl) tgo_1 tgo_2 (by decide) (Nat.le_of_ble_eq_true rfl) (pc2 := 4) rfl ?_
  refine e_aload_n dX0_init_4 0 rfl rfl (pc2 := 5) rfl ?_
  refine e_iconst (x := 3) dX0_init_5 (by decide) (pc2 := 6) rfl ?_
  refine e_newI (m0 := 3) dX0_init_6 (by decide) (by decide) (by decide) (TG_t1 58 (by decide +kernel) rfl) rfl hb_32_20 ⟨by decide, by decide, by decide⟩ (by simp [okr]) (by simp [okr]) (pc2 := 8) rfl ?_
  refine e_putRF fl_X0_9 dX0_init_8 ⟨by decide, by decide, rfl⟩ fn_0_5 rfl rc_0 frc_0_5 (by decide) (h2 := H_33) rfl (pc2 := 11) rfl ?_
  exact e_vret rfl dX0_init_11
set_option maxRecDepth 20000 in
set_option maxHeartbeats 4000000 in
theorem c13_X0_init : Mt 2 (yX0_init, cX0_init, 1, none) [.ref 22] 22 H_34 none 23 H_35 := by
  refine Mt.of (by decide +kernel) (by decide) (Nat.le_of_ble_eq_true rfl) ?_
  show Ev 2 (yX0_init, cX0_init, 1, none) 22 none 23 H_35 0 22 [(0, .ref 22)] [] H_34
  refine e_aload_n dX0_init_0 0 rfl rfl (pc2 := 1) rfl ?_
  refine e_obji dX0_init_1 (TG_t1 108 (by decide +kernel) rfl) tgo_1 tgo_2 (by decide) (Nat.le_of_ble_eq_true rfl) (pc2 := 4) rfl ?_
  refine e_aload_n dX0_init_4 0 rfl rfl (pc2 := 5) rfl ?_
  refine e_iconst (x := 3) dX0_init_5 (by decide) (pc2 := 6) rfl ?_
  refine e_newI (m0 := 3) dX0_init_6 (by decide) (by decide) (by decide) (TG_t1 58 (by decide +kernel) rfl) rfl hb_34_22 ⟨by decide, by decide, by decide⟩ (by simp [okr]) (by simp [okr]) (pc2 := 8) rfl ?_
  refine e_putRF fl_X0_9 dX0_init_8 ⟨by decide, by decide, rfl⟩ fn_0_5 rfl rc_0 frc_0_5 (by decide) (h2 := H_35) rfl (pc2 := 11) rfl ?_
  exact e_vret rfl dX0_init_11
set_option maxRecDepth 20000 in
set_option maxHeartbeats 4000000 in
theorem c14_X0_init : Mt 2 (yX0_init, cX0_init, 1, none) [.ref 24] 24 H_36 none 25 H_37 := by
  refine Mt.of (by decide +kernel) (by decide) (Nat.le_of_ble_eq_true rfl) ?_
  show Ev 2 (yX0_init, cX0_init, 1, none) 24 none 25 H_37 0 24 [(0, .ref 24)] [] H_36
  refine e_aload_n dX0_init_0 0 rfl rfl (pc2 := 1) rfl ?_
  refine e_obji dX0_init_1 (TG_t1 108 (by decide +kernel) rfl) tgo_1 tgo_2 (by decide) (Nat.le_of_ble_eq_true rfl) (pc2 := 4) rfl ?_
  refine e_aload_n dX0_init_4 0 rfl rfl (pc2 := 5) rfl ?_
  refine e_iconst (x := 3) dX0_init_5 (by decide) (pc2 := 6) rfl ?_
  refine e_newI (m0 := 3) dX0_init_6 (by decide) (by decide) (by decide) (TG_t1 58 (by decide +kernel) rfl) rfl hb_36_24 ⟨by decide, by decide, by decide⟩ (by simp [okr]) (by simp [okr]) (pc2 := 8) rfl ?_
  refine e_putRF fl_X0_9 dX0_init_8 ⟨by decide, by decide, rfl⟩ fn_0_5 rfl rc_0 frc_0_5 (by decide) (h2 := H_37) rfl (pc2 := 11) rfl ?_
  exact e_vret rfl dX0_init_11
set_option maxRecDepth 20000 in
set_option maxHeartbeats 4000000 in
theorem c15_X0_init : Mt 2 (yX0_init, cX0_init, 1, none) [.ref 26] 26 H_38 none 27 H_39 := by
  refine Mt.of (by decide +kernel) (by decide) (Nat.le_of_ble_eq_true rfl) ?_
  show Ev 2 (yX0_init, cX0_init, 1, none) 26 none 27 H_39 0 26 [(0, .ref 26)] [] H_38
  refine e_aload_n dX0_init_0 0 rfl rfl (pc2 := 1) rfl ?_
  refine e_obji dX0_init_1 (TG_t1 108 (by decide +kernel) rfl) tgo_1 tgo_2 (by decide) (Nat.le_of_ble_eq_true rfl) (pc2 := 4) rfl ?_
  refine e_aload_n dX0_init_4 0 rfl rfl (pc2 := 5) rfl ?_
  refine e_iconst (x := 3) dX0_init_5 (by decide) (pc2 := 6) rfl ?_
  refine e_newI (m0 := 3) dX0_init_6 (by decide) (by decide) (by decide) (TG_t1 58 (by decide +kernel) rfl) rfl hb_38_26 ⟨by decide, by decide, by decide⟩ (by simp [okr]) (by simp [okr]) (pc2 := 8) rfl ?_
  refine e_putRF fl_X0_9 dX0_init_8 ⟨by decide, by decide, rfl⟩ fn_0_5 rfl rc_0 frc_0_5 (by decide) (h2 := H_39) rfl (pc2 := 11) rfl ?_
  exact e_vret rfl dX0_init_11
set_option maxRecDepth 20000 in
set_option maxHeartbeats 4000000 in
theorem c2_X4_init : Mt 3 (yX4_init, cX4_init, 2, none) [.ref 2] 2 H_0 none 27 H_40 := by
  refine Mt.of (by decide +kernel) (by decide) (Nat.le_of_ble_eq_true rfl) ?_
  show Ev 3 (yX4_init, cX4_init, 2, none) 2 none 27 H_40 0 2 [(0, .ref 2)] [] H_0
  refine e_aload_n dX4_init_0 0 rfl rfl (pc2 := 1) rfl ?_
  refine e_obji dX4_init_1 (TG_t1 40 (by decide +kernel) rfl) tgo_1 tgo_2 (by decide) (Nat.le_of_ble_eq_true rfl) (pc2 := 4) rfl ?_
  refine e_aload_n dX4_init_4 0 rfl rfl (pc2 := 5) rfl ?_
  refine e_iconst (x := 4) dX4_init_5 (by decide) (pc2 := 6) rfl ?_
  refine e_newI (m0 := 4) dX4_init_6 (by decide) (by decide) (by decide) (TG_t1 58 (by decide +kernel) rfl) rfl hb_0_2 ⟨by decide, by decide, by decide⟩ (by simp [okr]) (by simp [okr]) (pc2 := 8) rfl ?_
  refine e_putRF fl_X4_9 dX4_init_8 ⟨by decide, by decide, rfl⟩ fn_4_7 rfl rc_4 frc_4_7 (by decide) (h2 := H_1) rfl (pc2 := 11) rfl ?_
  refine e_aload_n dX4_init_11 0 rfl rfl (pc2 := 12) rfl ?_
  refine e_new dX4_init_12 fd_2 (TG_t1 41 (by decide +kernel) rfl) (TG_t1 42 (by decide +kernel) rfl) (TG_t1 3 (by decide +kernel) rfl) rfl hb_1_3 ⟨by decide, by decide, by decide⟩ (by simp [okr]) (by simp [okr]) (pc2 := 15) rfl ?_
  refine e_dup dX4_init_15 rfl (pc2 := 16) rfl ?_
  refine e_callI c3_X2_init dX4_init_16 ci_X4_17 rfl (by decide) (Nat.le_of_ble_eq_true rfl) ⟨by decide, by decide, by decide⟩ (by simp [okr2]) (by simp [okr2]) rfl (pc2 := 19) rfl ?_
  refine e_putRF fl_X4_18 dX4_init_19 ⟨by decide, by decide, rfl⟩ fn_4_8 rfl rc_4 fr_4_8 (by decide) (h2 := H_4) rfl (pc2 := 22) rfl ?_
  refine e_aload_n dX4_init_22 0 rfl rfl (pc2 := 23) rfl ?_
  refine e_bipush (x := 6) dX4_init_23 (by decide) (pc2 := 25) rfl ?_
  refine e_newL (m0 := 6) dX4_init_25 (by decide) (by decide) (by decide) (TG_t1 103 (by decide +kernel) rfl) rfl hb_4_6 ⟨by decide, by decide, by decide⟩ (by simp [okr]) (by simp [okr]) (pc2 := 27) rfl ?_
  refine e_putRF fl_X4_22 dX4_init_27 ⟨by decide, by decide, rfl⟩ fn_4_10 rfl rc_4 frc_4_10 (by decide) (h2 := H_5) rfl (pc2 := 30) rfl ?_
  refine e_aload_n dX4_init_30 0 rfl rfl (pc2 := 31) rfl ?_
  refine e_bipush (x := 6) dX4_init_31 (by decide) (pc2 := 33) rfl ?_
  refine e_newI (m0 := 6) dX4_init_33 (by decide) (by decide) (by decide) (TG_t1 58 (by decide +kernel) rfl) rfl hb_5_7 ⟨by decide, by decide, by decide⟩ (by simp [okr]) (by simp [okr]) (pc2 := 35) rfl ?_
  refine e_putRF fl_X4_26 dX4_init_35 ⟨by decide, by decide, rfl⟩ fn_4_11 rfl rc_4 frc_4_11 (by decide) (h2 := H_6) rfl (pc2 := 38) rfl ?_
  refine e_aload_n dX4_init_38 0 rfl rfl (pc2 := 39) rfl ?_
  refine e_iconst (x := 5) dX4_init_39 (by decide) (pc2 := 40) rfl ?_
  refine e_newq5 (m0 := 5) dX4_init_40 (TG_t1 59 (by decide +kernel) rfl) (by decide) (by decide) (by decide) rfl hb_6_8 ⟨by decide, by decide, by decide⟩ (by simp [okr]) (by simp [okr]) (pc2 := 43) rfl ?_
  refine e_putRF fl_X4_31 dX4_init_43 ⟨by decide, by decide, rfl⟩ fn_4_13 rfl rc_4 frc_4_13 (by decide) (h2 := H_7) rfl (pc2 := 46) rfl ?_
  refine e_aload_n dX4_init_46 0 rfl rfl (pc2 := 47) rfl ?_
  refine e_bipush (x := 6) dX4_init_47 (by decide) (pc2 := 49) rfl ?_
  refine e_newq6 (m0 := 6) dX4_init_49 (TG_t1 61 (by decide +kernel) rfl) (by decide) (by decide) (by decide) rfl hb_7_9 ⟨by decide, by decide, by decide⟩ (by simp [okr]) (by simp [okr]) (pc2 := 52) rfl ?_
  refine e_putRF fl_X4_37 dX4_init_52 ⟨by decide, by decide, rfl⟩ fn_4_15 rfl rc_4 frc_4_15 (by decide) (h2 := H_8) rfl (pc2 := 55) rfl ?_
  refine e_aload_n dX4_init_55 0 rfl rfl (pc2 := 56) rfl ?_
  refine e_callVn c4_X4_clear dX4_init_56 cv_X4_41 rfl ⟨by decide, by decide, rfl⟩ rc_4 (by decide) (Nat.le_of_ble_eq_true rfl) ⟨by decide, by decide +kernel⟩ rfl (pc2 := 59) rfl ?_
  refine e_iconst (x := 0) dX4_init_59 (by decide) (pc2 := 60) rfl ?_
  refine e_istore_n dX4_init_60 rfl (by decide) rfl (ls' := [(0, .ref 2), (1, .int 0)]) [1, 0] rfl (pc2 := 61) rfl ?_
  refine e_iload_n dX4_init_61 1 rfl rfl (pc2 := 62) rfl ?_
  refine e_aload_n dX4_init_62 0 rfl rfl (pc2 := 63) rfl ?_
  refine e_getR (r := 9) fl_X4_31 dX4_init_63 ⟨by decide, by decide, rfl⟩ (by decide +kernel) (by decide) (pc2 := 66) rfl ?_
  refine e_alen (x := 5) dX4_init_66 ⟨by decide, by decide, rfl⟩ (by decide) (by decide) (pc2 := 67) rfl ?_
  refine e_icmp_ge (tgt := 89) dX4_init_67 (by decide) (pc2 := 70) rfl (fun c => absurd c (by decide)) (fun _ => ?_)
  refine e_aload_n dX4_init_70 0 rfl rfl (pc2 := 71) rfl ?_
  refine e_getR (r := 9) fl_X4_31 dX4_init_71 ⟨by decide, by decide, rfl⟩ (by decide +kernel) (by decide) (pc2 := 74) rfl ?_
  refine e_iload_n dX4_init_74 1 rfl rfl (pc2 := 75) rfl ?_
  refine e_new dX4_init_75 fd_9 (TG_t1 59 (by decide +kernel) rfl) (TG_t1 67 (by decide +kernel) rfl) (TG_t1 4 (by decide +kernel) rfl) rfl hb_23_10 ⟨by decide, by decide, by decide⟩ (by simp [okr]) (by simp [okr]) (pc2 := 78) rfl ?_
  refine e_dup dX4_init_78 rfl (pc2 := 79) rfl ?_
  refine e_callI c5_X9_init dX4_init_79 ci_X4_44 rfl (by decide) (Nat.le_of_ble_eq_true rfl) ⟨by decide, by decide, by decide⟩ (by simp [okr2]) (by simp [okr2]) rfl (pc2 := 82) rfl ?_
  refine e_aast (ci := 9) dX4_init_82 ⟨by decide, by decide, rfl⟩ (by decide) ⟨by decide, by decide, rfl⟩ (inb_v (by decide)) (h2 := H_24) rfl (pc2 := 83) rfl ?_
  refine e_iinc dX4_init_83 1 rfl (c9 := 1) (by decide) (y := 1) (by decide) (by decide) (ls' := [(0, .ref 2), (1, .int 1)]) [1, 0] rfl (pc2 := 86) rfl ?_
  refine e_goto (tgt := 61) dX4_init_86 (by decide) ?_
  refine e_iload_n dX4_init_61 1 rfl rfl (pc2 := 62) rfl ?_
  refine e_aload_n dX4_init_62 0 rfl rfl (pc2 := 63) rfl ?_
  refine e_getR (r := 9) fl_X4_31 dX4_init_63 ⟨by decide, by decide, rfl⟩ (by decide +kernel) (by decide) (pc2 := 66) rfl ?_
  refine e_alen (x := 5) dX4_init_66 ⟨by decide, by decide, rfl⟩ (by decide) (by decide) (pc2 := 67) rfl ?_
  refine e_icmp_ge (tgt := 89) dX4_init_67 (by decide) (pc2 := 70) rfl (fun c => absurd c (by decide)) (fun _ => ?_)
  refine e_aload_n dX4_init_70 0 rfl rfl (pc2 := 71) rfl ?_
  refine e_getR (r := 9) fl_X4_31 dX4_init_71 ⟨by decide, by decide, rfl⟩ (by decide +kernel) (by decide) (pc2 := 74) rfl ?_
  refine e_iload_n dX4_init_74 1 rfl rfl (pc2 := 75) rfl ?_
  refine e_new dX4_init_75 fd_9 (TG_t1 59 (by decide +kernel) rfl) (TG_t1 67 (by decide +kernel) rfl) (TG_t1 4 (by decide +kernel) rfl) rfl hb_24_11 ⟨by decide, by decide, by decide⟩ (by simp [okr]) (by simp [okr]) (pc2 := 78) rfl ?_
  refine e_dup dX4_init_78 rfl (pc2 := 79) rfl ?_
  refine e_callI c6_X9_init dX4_init_79 ci_X4_44 rfl (by decide) (Nat.le_of_ble_eq_true rfl) ⟨by decide, by decide, by decide⟩ (by simp [okr2]) (by simp [okr2]) rfl (pc2 := 82) rfl ?_
  refine e_aast (ci := 9) dX4_init_82 ⟨by decide, by decide, rfl⟩ (by decide) ⟨by decide, by decide, rfl⟩ (inb_v (by decide)) (h2 := H_25) rfl (pc2 := 83) rfl ?_
  refine e_iinc dX4_init_83 1 rfl (c9 := 1) (by decide) (y := 2) (by decide) (by decide) (ls' := [(0, .ref 2), (1, .int 2)]) [1, 0] rfl (pc2 := 86) rfl ?_
  refine e_goto (tgt := 61) dX4_init_86 (by decide) ?_
  refine e_iload_n dX4_init_61 1 rfl rfl (pc2 := 62) rfl ?_
  refine e_aload_n dX4_init_62 0 rfl rfl (pc2 := 63) rfl ?_
  refine e_getR (r := 9) fl_X4_31 dX4_init_63 ⟨by decide, by decide, rfl⟩ (by decide +kernel) (by decide) (pc2 := 66) rfl ?_
  refine e_alen (x := 5) dX4_init_66 ⟨by decide, by decide, rfl⟩ (by decide) (by decide) (pc2 := 67) rfl ?_
  refine e_icmp_ge (tgt := 89) dX4_init_67 (by decide) (pc2 := 70) rfl (fun c => absurd c (by decide)) (fun _ => ?_)
  refine e_aload_n dX4_init_70 0 rfl rfl (pc2 := 71) rfl ?_
  refine e_getR (r := 9) fl_X4_31 dX4_init_71 ⟨by decide, by decide, rfl⟩ (by decide +kernel) (by decide) (pc2 := 74) rfl ?_
  refine e_iload_n dX4_init_74 1 rfl rfl (pc2 := 75) rfl ?_
  refine e_new dX4_init_75 fd_9 (TG_t1 59 (by decide +kernel) rfl) (TG_t1 67 (by decide +kernel) rfl) (TG_t1 4 (by decide +kernel) rfl) rfl hb_25_12 ⟨by decide, by decide, by decide⟩ (by simp [okr]) (by simp [okr]) (pc2 := 78) rfl ?_
  refine e_dup dX4_init_78 rfl (pc2 := 79) rfl ?_
  refine e_callI c7_X9_init dX4_init_79 ci_X4_44 rfl (by decide) (Nat.le_of_ble_eq_true rfl) ⟨by decide, by decide, by decide⟩ (by simp [okr2]) (by simp [okr2]) rfl (pc2 := 82) rfl ?_
  refine e_aast (ci := 9) dX4_init_82 ⟨by decide, by decide, rfl⟩ (by decide) ⟨by decide, by decide, rfl⟩ (inb_v (by decide)) (h2 := H_26) rfl (pc2 := 83) rfl ?_
  refine e_iinc dX4_init_83 1 rfl (c9 := 1) (by decide) (y := 3) (by decide) (by decide) (ls' := [(0, .ref 2), (1, .int 3)]) [1, 0] rfl (pc2 := 86) rfl ?_
  refine e_goto (tgt := 61) dX4_init_86 (by decide) ?_
  refine e_iload_n dX4_init_61 1 rfl rfl (pc2 := 62) rfl ?_
  refine e_aload_n dX4_init_62 0 rfl rfl (pc2 := 63) rfl ?_
  refine e_getR (r := 9) fl_X4_31 dX4_init_63 ⟨by decide, by decide, rfl⟩ (by decide +kernel) (by decide) (pc2 := 66) rfl ?_
  refine e_alen (x := 5) dX4_init_66 ⟨by decide, by decide, rfl⟩ (by decide) (by decide) (pc2 := 67) rfl ?_
  refine e_icmp_ge (tgt := 89) dX4_init_67 (by decide) (pc2 := 70) rfl (fun c => absurd c (by decide)) (fun _ => ?_)
  refine e_aload_n dX4_init_70 0 rfl rfl (pc2 := 71) rfl ?_
  refine e_getR (r := 9) fl_X4_31 dX4_init_71 ⟨by decide, by decide, rfl⟩ (by decide +kernel) (by decide) (pc2 := 74) rfl ?_
  refine e_iload_n dX4_init_74 1 rfl rfl (pc2 := 75) rfl ?_
  refine e_new dX4_init_75 fd_9 (TG_t1 59 (by decide +kernel) rfl) (TG_t1 67 (by decide +kernel) rfl) (TG_t1 4 (by decide +kernel) rfl) rfl hb_26_13 ⟨by decide, by decide, by decide⟩ (by simp [okr]) (by simp [okr]) (pc2 := 78) rfl ?_
  refine e_dup dX4_init_78 rfl (pc2 := 79) rfl ?_
  refine e_callI c8_X9_init dX4_init_79 ci_X4_44 rfl (by decide) (Nat.le_of_ble_eq_true rfl) ⟨by decide, by decide, by decide⟩ (by simp [okr2]) (by simp [okr2]) rfl (pc2 := 82) rfl ?_
  refine e_aast (ci := 9) dX4_init_82 ⟨by decide, by decide, rfl⟩ (by decide) ⟨by decide, by decide, rfl⟩ (inb_v (by decide)) (h2 := H_27) rfl (pc2 := 83) rfl ?_
  refine e_iinc dX4_init_83 1 rfl (c9 := 1) (by decide) (y := 4) (by decide) (by decide) (ls' := [(0, .ref 2), (1, .int 4)]) [1, 0] rfl (pc2 := 86) rfl ?_
  refine e_goto (tgt := 61) dX4_init_86 (by decide) ?_
  refine e_iload_n dX4_init_61 1 rfl rfl (pc2 := 62) rfl ?_
  refine e_aload_n dX4_init_62 0 rfl rfl (pc2 := 63) rfl ?_
  refine e_getR (r := 9) fl_X4_31 dX4_init_63 ⟨by decide, by decide, rfl⟩ (by decide +kernel) (by decide) (pc2 := 66) rfl ?_
  refine e_alen (x := 5) dX4_init_66 ⟨by decide, by decide, rfl⟩ (by decide) (by decide) (pc2 := 67) rfl ?_
  refine e_icmp_ge (tgt := 89) dX4_init_67 (by decide) (pc2 := 70) rfl (fun c => absurd c (by decide)) (fun _ => ?_)
  refine e_aload_n dX4_init_70 0 rfl rfl (pc2 := 71) rfl ?_
  refine e_getR (r := 9) fl_X4_31 dX4_init_71 ⟨by decide, by decide, rfl⟩ (by decide +kernel) (by decide) (pc2 := 74) rfl ?_
  refine e_iload_n dX4_init_74 1 rfl rfl (pc2 := 75) rfl ?_
  refine e_new dX4_init_75 fd_9 (TG_t1 59 (by decide +kernel) rfl) (TG_t1 67 (by decide +kernel) rfl) (TG_t1 4 (by decide +kernel) rfl) rfl hb_27_14 ⟨by decide, by decide, by decide⟩ (by simp [okr]) (by simp [okr]) (pc2 := 78) rfl ?_
  refine e_dup dX4_init_78 rfl (pc2 := 79) rfl ?_
  refine e_callI c9_X9_init dX4_init_79 ci_X4_44 rfl (by decide) (Nat.le_of_ble_eq_true rfl) ⟨by decide, by decide, by decide⟩ (by simp [okr2]) (by simp [okr2]) rfl (pc2 := 82) rfl ?_
  refine e_aast (ci := 9) dX4_init_82 ⟨by decide, by decide, rfl⟩ (by decide) ⟨by decide, by decide, rfl⟩ (inb_v (by decide)) (h2 := H_28) rfl (pc2 := 83) rfl ?_
  refine e_iinc dX4_init_83 1 rfl (c9 := 1) (by decide) (y := 5) (by decide) (by decide) (ls' := [(0, .ref 2), (1, .int 5)]) [1, 0] rfl (pc2 := 86) rfl ?_
  refine e_goto (tgt := 61) dX4_init_86 (by decide) ?_
  refine e_iload_n dX4_init_61 1 rfl rfl (pc2 := 62) rfl ?_
  refine e_aload_n dX4_init_62 0 rfl rfl (pc2 := 63) rfl ?_
  refine e_getR (r := 9) fl_X4_31 dX4_init_63 ⟨by decide, by decide, rfl⟩ (by decide +kernel) (by decide) (pc2 := 66) rfl ?_
  refine e_alen (x := 5) dX4_init_66 ⟨by decide, by decide, rfl⟩ (by decide) (by decide) (pc2 := 67) rfl ?_
  refine e_icmp_ge (tgt := 89) dX4_init_67 (by decide) (pc2 := 70) rfl (fun _ => ?_) (fun c => absurd (by decide) c)
  refine e_iconst (x := 0) dX4_init_89 (by decide) (pc2 := 90) rfl ?_
  refine e_istore_n dX4_init_90 rfl (by decide) rfl (ls' := [(0, .ref 2), (1, .int 0)]) [1, 0] rfl (pc2 := 91) rfl ?_
  refine e_iload_n dX4_init_91 1 rfl rfl (pc2 := 92) rfl ?_
  refine e_aload_n dX4_init_92 0 rfl rfl (pc2 := 93) rfl ?_
  refine e_getR (r := 10) fl_X4_37 dX4_init_93 ⟨by decide, by decide, rfl⟩ (by decide +kernel) (by decide) (pc2 := 96) rfl ?_
  refine e_alen (x := 6) dX4_init_96 ⟨by decide, by decide, rfl⟩ (by decide) (by decide) (pc2 := 97) rfl ?_
  refine e_icmp_ge (tgt := 119) dX4_init_97 (by decide) (pc2 := 100) rfl (fun c => absurd c (by decide)) (fun _ => ?_)
  refine e_aload_n dX4_init_100 0 rfl rfl (pc2 := 101) rfl ?_
  refine e_getR (r := 10) fl_X4_37 dX4_init_101 ⟨by decide, by decide, rfl⟩ (by decide +kernel) (by decide) (pc2 := 104) rfl ?_
  refine e_iload_n dX4_init_104 1 rfl rfl (pc2 := 105) rfl ?_
  refine e_new dX4_init_105 fd_0 (TG_t1 61 (by decide +kernel) rfl) (TG_t1 104 (by decide +kernel) rfl) (TG_t1 5 (by decide +kernel) rfl) rfl hb_28_15 ⟨by decide, by decide, by decide⟩ (by simp [okr]) (by simp [okr]) (pc2 := 108) rfl ?_
  refine e_dup dX4_init_108 rfl (pc2 := 109) rfl ?_
  refine e_callI c10_X0_init dX4_init_109 ci_X4_45 rfl (by decide) (Nat.le_of_ble_eq_true rfl) ⟨by decide, by decide, by decide⟩ (by simp [okr2]) (by simp [okr2]) rfl (pc2 := 112) rfl ?_
  refine e_aast (ci := 0) dX4_init_112 ⟨by decide, by decide, rfl⟩ (by decide) ⟨by decide, by decide, rfl⟩ (inb_v (by decide)) (h2 := H_30) rfl (pc2 := 113) rfl ?_
  refine e_iinc dX4_init_113 1 rfl (c9 := 1) (by decide) (y := 1) (by decide) (by decide) (ls' := [(0, .ref 2), (1, .int 1)]) [1, 0] rfl (pc2 := 116) rfl ?_
  refine e_goto (tgt := 91) dX4_init_116 (by decide) ?_
  refine e_iload_n dX4_init_91 1 rfl rfl (pc2 := 92) rfl ?_
  refine e_aload_n dX4_init_92 0 rfl rfl (pc2 := 93) rfl ?_
  refine e_getR (r := 10) fl_X4_37 dX4_init_93 ⟨by decide, by decide, rfl⟩ (by decide +kernel) (by decide) (pc2 := 96) rfl ?_
  refine e_alen (x := 6) dX4_init_96 ⟨by decide, by decide, rfl⟩ (by decide) (by decide) (pc2 := 97) rfl ?_
  refine e_icmp_ge (tgt := 119) dX4_init_97 (by decide) (pc2 := 100) rfl (fun c => absurd c (by decide)) (fun _ => ?_)
  refine e_aload_n dX4_init_100 0 rfl rfl (pc2 := 101) rfl ?_
  refine e_getR (r := 10) fl_X4_37 dX4_init_101 ⟨by decide, by decide, rfl⟩ (by decide +kernel) (by decide) (pc2 := 104) rfl ?_
  refine e_iload_n dX4_init_104 1 rfl rfl (pc2 := 105) rfl ?_
  refine e_new dX4_init_105 fd_0 (TG_t1 61 (by decide +kernel) rfl) (TG_t1 104 (by decide +kernel) rfl) (TG_t1 5 (by decide +kernel) rfl) rfl hb_30_17 ⟨by decide, by decide, by decide⟩ (by simp [okr]) (by simp [okr]) (pc2 := 108) rfl ?_
  refine e_dup dX4_init_108 rfl (pc2 := 109) rfl ?_
  refine e_callI c11_X0_init dX4_init_109 ci_X4_45 rfl (by decide) (Nat.le_of_ble_eq_true rfl) ⟨by decide, by decide, by decide⟩ (by simp [okr2]) (by simp [okr2]) rfl (pc2 := 112) rfl ?_
  refine e_aast (ci := 0) dX4_init_112 ⟨by decide, by decide, rfl⟩ (by decide) ⟨by decide, by decide, rfl⟩ (inb_v (by decide)) (h2 := H_32) rfl (pc2 := 113) rfl ?_
  refine e_iinc dX4_init_113 1 rfl (c9 := 1) (by decide) (y := 2) (by decide) (by decide) (ls' := [(0, .ref 2), (1, .int 2)]) [1, 0] rfl (pc2 := 116) rfl ?_
  refine e_goto (tgt := 91) dX4_init_116 (by decide) ?_
  refine e_iload_n dX4_init_91 1 rfl rfl (pc2 := 92) rfl ?_
  refine e_aload_n dX4_init_92 0 rfl rfl (pc2 := 93) rfl ?_
  refine e_getR (r := 10) fl_X4_37 dX4_init_93 ⟨by decide, by decide, rfl⟩ (by decide +kernel) (by decide) (pc2 := 96) rfl ?_
  refine e_alen (x := 6) dX4_init_96 ⟨by decide, by decide, rfl⟩ (by decide) (by decide) (pc2 := 97) rfl ?_
  refine e_icmp_ge (tgt := 119) dX4_init_97 (by decide) (pc2 := 100) rfl (fun c => absurd c (by decide)) (fun _ => ?_)
  refine e_aload_n dX4_init_100 0 rfl rfl (pc2 := 101) rfl ?_
  refine e_getR (r := 10) fl_X4_37 dX4_init_101 ⟨by decide, by decide, rfl⟩ (by decide +kernel) (by decide) (pc2 := 104) rfl ?_
  refine e_iload_n dX4_init_104 1 rfl rfl (pc2 := 105) rfl ?_
  refine e_new dX4_init_105 fd_0 (TG_t1 61 (by decide +kernel) rfl) (TG_t1 104 (by decide +kernel) rfl) (TG_t1 5 (by decide +kernel) rfl) rfl hb_32_19 ⟨by decide, by decide, by decide⟩ (by simp [okr]) (by simp [okr]) (pc2 := 108) rfl ?_
  refine e_dup dX4_init_108 rfl (pc2 := 109) rfl ?_
  refine e_callI c12_X0_init dX4_init_109 ci_X4_45 rfl (by decide) (Nat.le_of_ble_eq_true rfl) ⟨by decide, by decide, by decide⟩ (by simp [okr2]) (by simp [okr2]) rfl (pc2 := 112) rfl ?_
  refine e_aast (ci := 0) dX4_init_112 ⟨by decide, by decide, rfl⟩ (by decide) ⟨by decide, by decide, rfl⟩ (inb_v (by decide)) (h2 := H_34) rfl (pc2 := 113) rfl ?_
  refine e_iinc dX4_init_113 1 rfl (c9 := 1) (by decide) (y := 3) (by decide) (by decide) (ls' := [(0, .ref 2), (1, .int 3)]) [1, 0] rfl (pc2 := 116) rfl ?_
  refine e_goto (tgt := 91) dX4_init_116 (by decide) ?_
  refine e_iload_n dX4_init_91 1 rfl rfl (pc2 := 92) rfl ?_
  refine e_aload_n dX4_init_92 0 rfl rfl (pc2 := 93) rfl ?_
  refine e_getR (r := 10) fl_X4_37 dX4_init_93 ⟨by decide, by decide, rfl⟩ (by decide +kernel) (by decide) (pc2 := 96) rfl ?_
  refine e_alen (x := 6) dX4_init_96 ⟨by decide, by decide, rfl⟩ (by decide) (by decide) (pc2 := 97) rfl ?_
  refine e_icmp_ge (tgt := 119) dX4_init_97 (by decide) (pc2 := 100) rfl (fun c => absurd c (by decide)) (fun _ => ?_)
  refine e_aload_n dX4_init_100 0 rfl rfl (pc2 := 101) rfl ?_
  refine e_getR (r := 10) fl_X4_37 dX4_init_101 ⟨by decide, by decide, rfl⟩ (by decide +kernel) (by decide) (pc2 := 104) rfl ?_
  refine e_iload_n dX4_init_104 1 rfl rfl (pc2 := 105) rfl ?_
  refine e_new dX4_init_105 fd_0 (TG_t1 61 (by decide +kernel) rfl) (TG_t1 104 (by decide +kernel) rfl) (TG_t1 5 (by decide +kernel) rfl) rfl hb_34_21 ⟨by decide, by decide, by decide⟩ (by simp [okr]) (by simp [okr]) (pc2 := 108) rfl ?_
  refine e_dup dX4_init_108 rfl (pc2 := 109) rfl ?_
  refine e_callI c13_X0_init dX4_init_109 ci_X4_45 rfl (by decide) (Nat.le_of_ble_eq_true rfl) ⟨by decide, by decide, by decide⟩ (by simp [okr2]) (by simp [okr2]) rfl (pc2 := 112) rfl ?_
  refine e_aast (ci := 0) dX4_init_112 ⟨by decide, by decide, rfl⟩ (by decide) ⟨by decide, by decide, rfl⟩ (inb_v (by decide)) (h2 := H_36) rfl (pc2 := 113) rfl ?_
  refine e_iinc dX4_init_113 1 rfl (c9 := 1) (by decide) (y := 4) (by decide) (by decide) (ls' := [(0, .ref 2), (1, .int 4)]) [1, 0] rfl (pc2 := 116) rfl ?_
  refine e_goto (tgt := 91) dX4_init_116 (by decide) ?_
  refine e_iload_n dX4_init_91 1 rfl rfl (pc2 := 92) rfl ?_
  refine e_aload_n dX4_init_92 0 rfl rfl (pc2 := 93) rfl ?_
  refine e_getR (r := 10) fl_X4_37 dX4_init_93 ⟨by decide, by decide, rfl⟩ (by decide +kernel) (by decide) (pc2 := 96) rfl ?_
  refine e_alen (x := 6) dX4_init_96 ⟨by decide, by decide, rfl⟩ (by decide) (by decide) (pc2 := 97) rfl ?_
  refine e_icmp_ge (tgt := 119) dX4_init_97 (by decide) (pc2 := 100) rfl (fun c => absurd c (by decide)) (fun _ => ?_)
  refine e_aload_n dX4_init_100 0 rfl rfl (pc2 := 101) rfl ?_
  refine e_getR (r := 10) fl_X4_37 dX4_init_101 ⟨by decide, by decide, rfl⟩ (by decide +kernel) (by decide) (pc2 := 104) rfl ?_
  refine e_iload_n dX4_init_104 1 rfl rfl (pc2 := 105) rfl ?_
  refine e_new dX4_init_105 fd_0 (TG_t1 61 (by decide +kernel) rfl) (TG_t1 104 (by decide +kernel) rfl) (TG_t1 5 (by decide +kernel) rfl) rfl hb_36_23 ⟨by decide, by decide, by decide⟩ (by simp [okr]) (by simp [okr]) (pc2 := 108) rfl ?_
  refine e_dup dX4_init_108 rfl (pc2 := 109) rfl ?_
  refine e_callI c14_X0_init dX4_init_109 ci_X4_45 rfl (by decide) (Nat.le_of_ble_eq_true rfl) ⟨by decide, by decide, by decide⟩ (by simp [okr2]) (by simp [okr2]) rfl (pc2 := 112) rfl ?_
  refine e_aast (ci := 0) dX4_init_112 ⟨by decide, by decide, rfl⟩ (by decide) ⟨by decide, by decide, rfl⟩ (inb_v (by decide)) (h2 := H_38) rfl (pc2 := 113) rfl ?_
  refine e_iinc dX4_init_113 1 rfl (c9 := 1) (by decide) (y := 5) (by decide) (by decide) (ls' := [(0, .ref 2), (1, .int 5)]) [1, 0] rfl (pc2 := 116) rfl ?_
  refine e_goto (tgt := 91) dX4_init_116 (by decide) ?_
  refine e_iload_n dX4_init_91 1 rfl rfl (pc2 := 92) rfl ?_
  refine e_aload_n dX4_init_92 0 rfl rfl (pc2 := 93) rfl ?_
  refine e_getR (r := 10) fl_X4_37 dX4_init_93 ⟨by decide, by decide, rfl⟩ (by decide +kernel) (by decide) (pc2 := 96) rfl ?_
  refine e_alen (x := 6) dX4_init_96 ⟨by decide, by decide, rfl⟩ (by decide) (by decide) (pc2 := 97) rfl ?_
  refine e_icmp_ge (tgt := 119) dX4_init_97 (by decide) (pc2 := 100) rfl (fun c => absurd c (by decide)) (fun _ => ?_)
  refine e_aload_n dX4_init_100 0 rfl rfl (pc2 := 101) rfl ?_
  refine e_getR (r := 10) fl_X4_37 dX4_init_101 ⟨by decide, by decide, rfl⟩ (by decide +kernel) (by decide) (pc2 := 104) rfl ?_
  refine e_iload_n dX4_init_104 1 rfl rfl (pc2 := 105) rfl ?_
  refine e_new dX4_init_105 fd_0 (TG_t1 61 (by decide +kernel) rfl) (TG_t1 104 (by decide +kernel) rfl) (TG_t1 5 (by decide +kernel) rfl) rfl hb_38_25 ⟨by decide, by decide, by decide⟩ (by simp [okr]) (by simp [okr]) (pc2 := 108) rfl ?_
  refine e_dup dX4_init_108 rfl (pc2 := 109) rfl ?_
  refine e_callI c15_X0_init dX4_init_109 ci_X4_45 rfl (by decide) (Nat.le_of_ble_eq_true rfl) ⟨by decide, by decide, by decide⟩ (by simp [okr2]) (by simp [okr2]) rfl (pc2 := 112) rfl ?_
  refine e_aast (ci := 0) dX4_init_112 ⟨by decide, by decide, rfl⟩ (by decide) ⟨by decide, by decide, rfl⟩ (inb_v (by decide)) (h2 := H_40) rfl (pc2 := 113) rfl ?_
  refine e_iinc dX4_init_113 1 rfl (c9 := 1) (by decide) (y := 6) (by decide) (by decide) (ls' := [(0, .ref 2), (1, .int 6)]) [1, 0] rfl (pc2 := 116) rfl ?_
  refine e_goto (tgt := 91) dX4_init_116 (by decide) ?_
  refine e_iload_n dX4_init_91 1 rfl rfl (pc2 := 92) rfl ?_
  refine e_aload_n dX4_init_92 0 rfl rfl (pc2 := 93) rfl ?_
  refine e_getR (r := 10) fl_X4_37 dX4_init_93 ⟨by decide, by decide, rfl⟩ (by decide +kernel) (by decide) (pc2 := 96) rfl ?_
  refine e_alen (x := 6) dX4_init_96 ⟨by decide, by decide, rfl⟩ (by decide) (by decide) (pc2 := 97) rfl ?_
  refine e_icmp_ge (tgt := 119) dX4_init_97 (by decide) (pc2 := 100) rfl (fun _ => ?_) (fun c => absurd (by decide) c)
  exact e_vret rfl dX4_init_119
set_option maxRecDepth 20000 in
set_option maxHeartbeats 4000000 in
theorem c16_X7_init : Mt 2 (yX7_init, cX7_init, 1, none) [.ref 28] 28 H_41 none 32 H_45 := by
  refine Mt.of (by decide +kernel) (by decide) (Nat.le_of_ble_eq_true rfl) ?_
  show Ev 2 (yX7_init, cX7_init, 1, none) 28 none 32 H_45 0 28 [(0, .ref 28)] [] H_41
  refine e_aload_n dX7_init_0 0 rfl rfl (pc2 := 1) rfl ?_
  refine e_obji dX7_init_1 (TG_t2 1 (by decide +kernel) rfl) tgo_1 tgo_2 (by decide) (Nat.le_of_ble_eq_true rfl) (pc2 := 4) rfl ?_
  refine e_aload_n dX7_init_4 0 rfl rfl (pc2 := 5) rfl ?_
  refine e_iconst (x := 5) dX7_init_5 (by decide) (pc2 := 6) rfl ?_
  refine e_newI (m0 := 5) dX7_init_6 (by decide) (by decide) (by decide) (TG_t1 58 (by decide +kernel) rfl) rfl hb_41_28 ⟨by decide, by decide, by decide⟩ (by simp [okr]) (by simp [okr]) (pc2 := 8) rfl ?_
  refine e_putRF fl_X7_9 dX7_init_8 ⟨by decide, by decide, rfl⟩ fn_7_4 rfl rc_7 frc_7_4 (by decide) (h2 := H_42) rfl (pc2 := 11) rfl ?_
  refine e_aload_n dX7_init_11 0 rfl rfl (pc2 := 12) rfl ?_
  refine e_bipush (x := 120) dX7_init_12 (by decide) (pc2 := 14) rfl ?_
  refine e_newI (m0 := 120) dX7_init_14 (by decide) (by decide) (by decide) (TG_t1 58 (by decide +kernel) rfl) rfl hb_42_29 ⟨by decide, by decide, by decide⟩ (by simp [okr]) (by simp [okr]) (pc2 := 16) rfl ?_
  refine e_putRF fl_X7_15 dX7_init_16 ⟨by decide, by decide, rfl⟩ fn_7_5 rfl rc_7 frc_7_5 (by decide) (h2 := H_43) rfl (pc2 := 19) rfl ?_
  refine e_aload_n dX7_init_19 0 rfl rfl (pc2 := 20) rfl ?_
  refine e_bipush (x := 20) dX7_init_20 (by decide) (pc2 := 22) rfl ?_
  refine e_newI (m0 := 20) dX7_init_22 (by decide) (by decide) (by decide) (TG_t1 58 (by decide +kernel) rfl) rfl hb_43_30 ⟨by decide, by decide, by decide⟩ (by simp [okr]) (by simp [okr]) (pc2 := 24) rfl ?_
  refine e_putRF fl_X7_18 dX7_init_24 ⟨by decide, by decide, rfl⟩ fn_7_7 rfl rc_7 frc_7_7 (by decide) (h2 := H_44) rfl (pc2 := 27) rfl ?_
  refine e_aload_n dX7_init_27 0 rfl rfl (pc2 := 28) rfl ?_
  refine e_bipush (x := 12) dX7_init_28 (by decide) (pc2 := 30) rfl ?_
  refine e_newI (m0 := 12) dX7_init_30 (by decide) (by decide) (by decide) (TG_t1 58 (by decide +kernel) rfl) rfl hb_44_31 ⟨by decide, by decide, by decide⟩ (by simp [okr]) (by simp [okr]) (pc2 := 32) rfl ?_
  refine e_putRF fl_X7_21 dX7_init_32 ⟨by decide, by decide, rfl⟩ fn_7_9 rfl rc_7 frc_7_9 (by decide) (h2 := H_45) rfl (pc2 := 35) rfl ?_
  exact e_vret rfl dX7_init_35
set_option maxRecDepth 20000 in
set_option maxHeartbeats 4000000 in
theorem c17_X8_init : Mt 2 (yX8_init, cX8_init, 1, none) [.ref 36] 36 H_49 none 37 H_50 := by
  refine Mt.of (by decide +kernel) (by decide) (Nat.le_of_ble_eq_true rfl) ?_
  show Ev 2 (yX8_init, cX8_init, 1, none) 36 none 37 H_50 0 36 [(0, .ref 36)] [] H_49
  refine e_aload_n dX8_init_0 0 rfl rfl (pc2 := 1) rfl ?_
  refine e_obji dX8_init_1 (TG_t2 61 (by decide +kernel) rfl) tgo_1 tgo_2 (by decide) (Nat.le_of_ble_eq_true rfl) (pc2 := 4) rfl ?_
  refine e_aload_n dX8_init_4 0 rfl rfl (pc2 := 5) rfl ?_
  refine e_sipush (x := 1000) dX8_init_5 (by decide) (pc2 := 8) rfl ?_
  refine e_newC (m0 := 1000) dX8_init_8 (by decide) (by decide) (by decide) (TG_t2 102 (by decide +kernel) rfl) rfl hb_49_36 ⟨by decide, by decide, by decide⟩ (by simp [okr]) (by simp [okr]) (pc2 := 10) rfl ?_
  refine e_putRF fl_X8_9 dX8_init_10 ⟨by decide, by decide, rfl⟩ fn_8_0 rfl rc_8 frc_8_0 (by decide) (h2 := H_50) rfl (pc2 := 13) rfl ?_
  exact e_vret rfl dX8_init_13
set_option maxRecDepth 20000 in
set_option maxHeartbeats 4000000 in
theorem c19_X2_init : Mt 2 (yX2_init, cX2_init, 1, none) [.ref 40] 40 H_51 none 42 H_53 := by
  refine Mt.of (by decide +kernel) (by decide) (Nat.le_of_ble_eq_true rfl) ?_
  show Ev 2 (yX2_init, cX2_init, 1, none) 40 none 42 H_53 0 40 [(0, .ref 40)] [] H_51
  refine e_aload_n dX2_init_0 0 rfl rfl (pc2 := 1) rfl ?_
  refine e_obji dX2_init_1 (TG_t1 46 (by decide +kernel) rfl) tgo_1 tgo_2 (by decide) (Nat.le_of_ble_eq_true rfl) (pc2 := 4) rfl ?_
  refine e_aload_n dX2_init_4 0 rfl rfl (pc2 := 5) rfl ?_
  refine e_sipush (x := 1000) dX2_init_5 (by decide) (pc2 := 8) rfl ?_
  refine e_newI (m0 := 1000) dX2_init_8 (by decide) (by decide) (by decide) (TG_t1 58 (by decide +kernel) rfl) rfl hb_51_40 ⟨by decide, by decide, by decide⟩ (by simp [okr]) (by simp [okr]) (pc2 := 10) rfl ?_
  refine e_putRF fl_X2_9 dX2_init_10 ⟨by decide, by decide, rfl⟩ fn_2_0 rfl rc_2 frc_2_0 (by decide) (h2 := H_52) rfl (pc2 := 13) rfl ?_
  refine e_aload_n dX2_init_13 0 rfl rfl (pc2 := 14) rfl ?_
  refine e_bipush (x := 32) dX2_init_14 (by decide) (pc2 := 16) rfl ?_
  refine e_newI (m0 := 32) dX2_init_16 (by decide) (by decide) (by decide) (TG_t1 58 (by decide +kernel) rfl) rfl hb_52_41 ⟨by decide, by decide, by decide⟩ (by simp [okr]) (by simp [okr]) (pc2 := 18) rfl ?_
  refine e_putRF fl_X2_15 dX2_init_18 ⟨by decide, by decide, rfl⟩ fn_2_2 rfl rc_2 frc_2_2 (by decide) (h2 := H_53) rfl (pc2 := 21) rfl ?_
  exact e_vret rfl dX2_init_21
set_option maxRecDepth 20000 in
set_option maxHeartbeats 4000000 in
theorem c20_X4_clear : Mt 1 (yX4_clear, cX4_clear, 1, none) [.ref 38] 46 H_58 none 46 H_73 := by
  refine Mt.of (by decide +kernel) (by decide) (Nat.le_of_ble_eq_true rfl) ?_
  show Ev 1 (yX4_clear, cX4_clear, 1, none) 46 none 46 H_73 0 46 [(0, .ref 38)] [] H_58
  refine e_aload_n dX4_clear_0 0 rfl rfl (pc2 := 1) rfl ?_
  refine e_sipush (x := 600) dX4_clear_1 (by decide) (pc2 := 4) rfl ?_
  refine e_putI fl_X4_46 dX4_clear_4 ⟨by decide, by decide, rfl⟩ fn_4_0 (h2 := H_59) rfl (pc2 := 7) rfl ?_
  refine e_aload_n dX4_clear_7 0 rfl rfl (pc2 := 8) rfl ?_
  refine e_sipush (x := 540) dX4_clear_8 (by decide) (pc2 := 11) rfl ?_
  refine e_putI fl_X4_50 dX4_clear_11 ⟨by decide, by decide, rfl⟩ fn_4_1 (h2 := H_60) rfl (pc2 := 14) rfl ?_
  refine e_aload_n dX4_clear_14 0 rfl rfl (pc2 := 15) rfl ?_
  refine e_iconst (x := 2) dX4_clear_15 (by decide) (pc2 := 16) rfl ?_
  refine e_putI fl_X4_53 dX4_clear_16 ⟨by decide, by decide, rfl⟩ fn_4_2 (h2 := H_61) rfl (pc2 := 19) rfl ?_
  refine e_aload_n dX4_clear_19 0 rfl rfl (pc2 := 20) rfl ?_
  refine e_bipush (x := 10) dX4_clear_20 (by decide) (pc2 := 22) rfl ?_
  refine e_putI fl_X4_56 dX4_clear_22 ⟨by decide, by decide, rfl⟩ fn_4_3 (h2 := H_62) rfl (pc2 := 25) rfl ?_
  refine e_aload_n dX4_clear_25 0 rfl rfl (pc2 := 26) rfl ?_
  refine e_bipush (x := 60) dX4_clear_26 (by decide) (pc2 := 28) rfl ?_
  refine e_putI fl_X4_59 dX4_clear_28 ⟨by decide, by decide, rfl⟩ fn_4_4 (h2 := H_63) rfl (pc2 := 31) rfl ?_
  refine e_aload_n dX4_clear_31 0 rfl rfl (pc2 := 32) rfl ?_
  refine e_bipush (x := 30) dX4_clear_32 (by decide) (pc2 := 34) rfl ?_
  refine e_putI fl_X4_62 dX4_clear_34 ⟨by decide, by decide, rfl⟩ fn_4_5 (h2 := H_64) rfl (pc2 := 37) rfl ?_
  refine e_aload_n dX4_clear_37 0 rfl rfl (pc2 := 38) rfl ?_
  refine e_iconst (x := 5) dX4_clear_38 (by decide) (pc2 := 39) rfl ?_
  refine e_putI fl_X4_65 dX4_clear_39 ⟨by decide, by decide, rfl⟩ fn_4_6 (h2 := H_65) rfl (pc2 := 42) rfl ?_
  refine e_aload_n dX4_clear_42 0 rfl rfl (pc2 := 43) rfl ?_
  refine e_getR (r := 39) fl_X4_9 dX4_clear_43 ⟨by decide, by decide, rfl⟩ (by decide +kernel) (by decide) (pc2 := 46) rfl ?_
  refine e_iconst (x := 0) dX4_clear_46 (by decide) (pc2 := 47) rfl ?_
  refine e_bipush (x := 10) dX4_clear_47 (by decide) (pc2 := 49) rfl ?_
  refine e_iast dX4_clear_49 ⟨by decide, by decide, rfl⟩ (inb_v (by decide)) (h2 := H_66) rfl (pc2 := 50) rfl ?_
  refine e_aload_n dX4_clear_50 0 rfl rfl (pc2 := 51) rfl ?_
  refine e_getR (r := 39) fl_X4_9 dX4_clear_51 ⟨by decide, by decide, rfl⟩ (by decide +kernel) (by decide) (pc2 := 54) rfl ?_
  refine e_iconst (x := 1) dX4_clear_54 (by decide) (pc2 := 55) rfl ?_
  refine e_iconst (x := 0) dX4_clear_55 (by decide) (pc2 := 56) rfl ?_
  refine e_iast dX4_clear_56 ⟨by decide, by decide, rfl⟩ (inb_v (by decide)) (h2 := H_67) rfl (pc2 := 57) rfl ?_
  refine e_aload_n dX4_clear_57 0 rfl rfl (pc2 := 58) rfl ?_
  refine e_getR (r := 39) fl_X4_9 dX4_clear_58 ⟨by decide, by decide, rfl⟩ (by decide +kernel) (by decide) (pc2 := 61) rfl ?_
  refine e_iconst (x := 2) dX4_clear_61 (by decide) (pc2 := 62) rfl ?_
  refine e_iconst (x := 0) dX4_clear_62 (by decide) (pc2 := 63) rfl ?_
  refine e_iast dX4_clear_63 ⟨by decide, by decide, rfl⟩ (inb_v (by decide)) (h2 := H_68) rfl (pc2 := 64) rfl ?_
  refine e_aload_n dX4_clear_64 0 rfl rfl (pc2 := 65) rfl ?_
  refine e_getR (r := 39) fl_X4_9 dX4_clear_65 ⟨by decide, by decide, rfl⟩ (by decide +kernel) (by decide) (pc2 := 68) rfl ?_
  refine e_iconst (x := 3) dX4_clear_68 (by decide) (pc2 := 69) rfl ?_
  refine e_iconst (x := 0) dX4_clear_69 (by decide) (pc2 := 70) rfl ?_
  refine e_iast dX4_clear_70 ⟨by decide, by decide, rfl⟩ (inb_v (by decide)) (h2 := H_69) rfl (pc2 := 71) rfl ?_
  refine e_aload_n dX4_clear_71 0 rfl rfl (pc2 := 72) rfl ?_
  refine e_getR (r := 40) fl_X4_18 dX4_clear_72 ⟨by decide, by decide, rfl⟩ (by decide +kernel) (by decide) (pc2 := 75) rfl ?_
  refine e_iconst (x := 0) dX4_clear_75 (by decide) (pc2 := 76) rfl ?_
  refine e_putI fl_X4_68 dX4_clear_76 ⟨by decide, by decide, rfl⟩ fn_2_1 (h2 := H_70) rfl (pc2 := 79) rfl ?_
  refine e_aload_n dX4_clear_79 0 rfl rfl (pc2 := 80) rfl ?_
  refine e_iconst (x := 0) dX4_clear_80 (by decide) (pc2 := 81) rfl ?_
  refine e_putI fl_X4_71 dX4_clear_81 ⟨by decide, by decide, rfl⟩ fn_4_9 (h2 := H_71) rfl (pc2 := 84) rfl ?_
  refine e_aload_n dX4_clear_84 0 rfl rfl (pc2 := 85) rfl ?_
  refine e_iconst (x := 0) dX4_clear_85 (by decide) (pc2 := 86) rfl ?_
  refine e_putI fl_X4_74 dX4_clear_86 ⟨by decide, by decide, rfl⟩ fn_4_12 (h2 := H_72) rfl (pc2 := 89) rfl ?_
  refine e_aload_n dX4_clear_89 0 rfl rfl (pc2 := 90) rfl ?_
  refine e_iconst (x := 0) dX4_clear_90 (by decide) (pc2 := 91) rfl ?_
  refine e_putI fl_X4_77 dX4_clear_91 ⟨by decide, by decide, rfl⟩ fn_4_14 (h2 := H_73) rfl (pc2 := 94) rfl ?_
  exact e_vret rfl dX4_clear_94
set_option maxRecDepth 20000 in
set_option maxHeartbeats 4000000 in
theorem c21_X9_init : Mt 2 (yX9_init, cX9_init, 1, none) [.ref 47] 47 H_73 none 47 H_73 := by
  refine Mt.of (by decide +kernel) (by decide) (Nat.le_of_ble_eq_true rfl) ?_
  show Ev 2 (yX9_init, cX9_init, 1, none) 47 none 47 H_73 0 47 [(0, .ref 47)] [] H_73
  refine e_aload_n dX9_init_0 0 rfl rfl (pc2 := 1) rfl ?_
  refine e_obji dX9_init_1 (TG_t1 71 (by decide +kernel) rfl) tgo_1 tgo_2 (by decide) (Nat.le_of_ble_eq_true rfl) (pc2 := 4) rfl ?_
  exact e_vret rfl dX9_init_4
set_option maxRecDepth 20000 in
set_option maxHeartbeats 4000000 in
theorem c22_X9_init : Mt 2 (yX9_init, cX9_init, 1, none) [.ref 48] 48 H_74 none 48 H_74 := by
  refine Mt.of (by decide +kernel) (by decide) (Nat.le_of_ble_eq_true rfl) ?_
  show Ev 2 (yX9_init, cX9_init, 1, none) 48 none 48 H_74 0 48 [(0, .ref 48)] [] H_74
  refine e_aload_n dX9_init_0 0 rfl rfl (pc2 := 1) rfl ?_
  refine e_obji dX9_init_1 (TG_t1 71 (by decide +kernel) rfl) tgo_1 tgo_2 (by decide) (Nat.le_of_ble_eq_true rfl) (pc2 := 4) rfl ?_
  exact e_vret rfl dX9_init_4
set_option maxRecDepth 20000 in
set_option maxHeartbeats 4000000 in
theorem c23_X9_init : Mt 2 (yX9_init, cX9_init, 1, none) [.ref 49] 49 H_75 none 49 H_75 := by
  refine Mt.of (by decide +kernel) (by decide) (Nat.le_of_ble_eq_true rfl) ?_
  show Ev 2 (yX9_init, cX9_init, 1, none) 49 none 49 H_75 0 49 [(0, .ref 49)] [] H_75
  refine e_aload_n dX9_init_0 0 rfl rfl (pc2 := 1) rfl ?_
  refine e_obji dX9_init_1 (TG_t1 71 (by decide +kernel) rfl) tgo_1 tgo_2 (by decide) (Nat.le_of_ble_eq_true rfl) (pc2 := 4) rfl ?_
  exact e_vret rfl dX9_init_4
set_option maxRecDepth 20000 in
set_option maxHeartbeats 4000000 in
theorem c24_X9_init : Mt 2 (yX9_init, cX9_init, 1, none) [.ref 50] 50 H_76 none 50 H_76 := by
  refine Mt.of (by decide +kernel) (by decide) (Nat.le_of_ble_eq_true rfl) ?_
  show Ev 2 (yX9_init, cX9_init, 1, none) 50 none 50 H_76 0 50 [(0, .ref 50)] [] H_76
  refine e_aload_n dX9_init_0 0 rfl rfl (pc2 := 1) rfl ?_
  refine e_obji dX9_init_1 (TG_t1 71 (by decide +kernel) rfl) tgo_1 tgo_2 (by decide) (Nat.le_of_ble_eq_true rfl) (pc2 := 4) rfl ?_
  exact e_vret rfl dX9_init_4
