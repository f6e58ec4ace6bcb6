set_option maxRecDepth 20000 in
set_option maxHeartbeats 4000000 in
theorem c25_X9_init : Mt 2 (yX9_init, cX9_init, 1, none) [.ref 51] 51 H_77 none 51 H_77 := by
  refine Mt.of (by decide +kernel) (by decide) (Nat.le_of_ble_eq_true rfl) ?_
  show Ev 2 (yX9_init, cX9_init, 1, none) 51 none 51 H_77 0 51 [(0, .ref 51)] [] H_77
  refine e_aload_n dX9_init_0 0 rfl rfl (pc2 := 1) rfl ?_
  refine e_obji dX9_init_1 (TG_t1 71 (by decide +kernel) rfl) tgo_1 tgo_2 (by decide) (Nat.le_of_ble_eq_true rfl) (pc2 := 4) rfl ?_
  exact e_vret rfl dX9_init_4
set_option maxRecDepth 20000 in
set_option maxHeartbeats 4000000 in
theorem c26_X0_init : Mt 2 (yX0_init, cX0_init, 1, none) [.ref 52] 52 H_78 none 53 H_79 := by
  refine Mt.of (by decide +kernel) (by decide) (Nat.le_of_ble_eq_true rfl) ?_
  show Ev 2 (yX0_init, cX0_init, 1, none) 52 none 53 H_79 0 52 [(0, .ref 52)] [] H_78
  refine e_aload_n dX0_init_0 0 rfl rfl (pc2 := 1) rfl ?_
  refine e_obji dX0_init_1 (TG_t1 108 (by decide +kernel) rfl) tgo_1 tgo_2 (by decide) (Nat.le_of_ble_eq_true rfl) (pc2 := 4) rfl ?_
  refine e_aload_n dX0_init_4 0 rfl rfl (pc2 := 5) rfl ?_
  refine e_iconst (x := 3) dX0_init_5 (by decide) (pc2 := 6) rfl ?_
  refine e_newI (m0 := 3) dX0_init_6 (by decide) (by decide) (by decide) (TG_t1 58 (by decide +kernel) rfl) rfl hb_78_52 ⟨by decide, by decide, by decide⟩ (by simp [okr]) (by simp [okr]) (pc2 := 8) rfl ?_
  refine e_putRF fl_X0_9 dX0_init_8 ⟨by decide, by decide, rfl⟩ fn_0_5 rfl rc_0 frc_0_5 (by decide) (h2 := H_79) rfl (pc2 := 11) rfl ?_
  exact e_vret rfl dX0_init_11
set_option maxRecDepth 20000 in
set_option maxHeartbeats 4000000 in
theorem c27_X0_init : Mt 2 (yX0_init, cX0_init, 1, none) [.ref 54] 54 H_80 none 55 H_81 := by
  refine Mt.of (by decide +kernel) (by decide) (Nat.le_of_ble_eq_true rfl) ?_
  show Ev 2 (yX0_init, cX0_init, 1, none) 54 none 55 H_81 0 54 [(0, .ref 54)] [] H_80
  refine e_aload_n dX0_init_0 0 rfl rfl (pc2 := 1) rfl ?_
  refine e_obji dX0_init_1 (TG_t1 108 (by decide +kernel) rfl) tgo_1 tgo_2 (by decide) (Nat.le_of_ble_eq_true rfl) (pc2 := 4) rfl ?_
  refine e_aload_n dX0_init_4 0 rfl rfl (pc2 := 5) rfl ?_
  refine e_iconst (x := 3) dX0_init_5 (by decide) (pc2 := 6) rfl ?_
  refine e_newI (m0 := 3) dX0_init_6 (by decide) (by decide) (by decide) (TG_t1 58 (by decide +kernel) rfl) rfl hb_80_54 ⟨by decide, by decide, by decide⟩ (by simp [okr]) (by simp [okr]) (pc2 := 8) rfl ?_
  refine e_putRF fl_X0_9 dX0_init_8 ⟨by decide, by decide, rfl⟩ fn_0_5 rfl rc_0 frc_0_5 (by decide) (h2 := H_81) rfl (pc2 := 11) rfl ?_
  exact e_vret rfl dX0_init_11
set_option maxRecDepth 20000 in
set_option maxHeartbeats 4000000 in
theorem c28_X0_init : Mt 2 (yX0_init, cX0_init, 1, none) [.ref 56] 56 H_82 none 57 H_83 := by
  refine Mt.of (by decide +kernel) (by decide) (Nat.le_of_ble_eq_true rfl) ?_
  show Ev 2 (yX0_init, cX0_init, 1, none) 56 none 57 H_83 0 56 [(0, .ref 56)] [] H_82
  refine e_aload_n dX0_init_0 0 rfl rfl (pc2 := 1) rfl ?_
  refine e_obji dX0_init_1 (TG_t1 108 (by decide +kernel) rfl) tgo_1 tgo_2 (by decide) (Nat.le_of_ble_eq_true rfl) (pc2 := 4) rfl ?_
  refine e_aload_n dX0_init_4 0 rfl rfl (pc2 := 5) rfl ?_
  refine e_iconst (x := 3) dX0_init_5 (by decide) (pc2 := 6) rfl ?_
  refine e_newI (m0 := 3) dX0_init_6 (by decide) (by decide) (by decide) (TG_t1 58 (by decide +kernel) rfl) rfl hb_82_56 ⟨by decide, by decide, by decide⟩ (by simp [okr]) (by simp [okr]) (pc2 := 8) rfl ?_
  refine e_putRF fl_X0_9 dX0_init_8 ⟨by decide, by decide, rfl⟩ fn_0_5 rfl rc_0 frc_0_5 (by decide) (h2 := H_83) rfl (pc2 := 11) rfl ?_
  exact e_vret rfl dX0_init_11
set_option maxRecDepth 20000 in
set_option maxHeartbeats 4000000 in
theorem c29_X0_init : Mt 2 (yX0_init, cX0_init, 1, none) [.ref 58] 58 H_84 none 59 H_85 := by
  refine Mt.of (by decide +kernel) (by decide) (Nat.le_of_ble_eq_true rfl) ?_
  show Ev 2 (yX0_init, cX0_init, 1, none) 58 none 59 H_85 0 58 [(0, .ref 58)] [] H_84
  refine e_aload_n dX0_init_0 0 rfl rfl (pc2 := 1) rfl ?_
  refine e_obji dX0_init_1 (TG_t1 108 (by decide +kernel) rfl) tgo_1 tgo_2 (by decide) (Nat.le_of_ble_eq_true rfl) (pc2 := 4) rfl ?_
  refine e_aload_n dX0_init_4 0 rfl rfl (pc2 := 5) rfl ?_
  refine e_iconst (x := 3) dX0_init_5 (by decide) (pc2 := 6) rfl ?_
  refine e_newI (m0 := 3) dX0_init_6 (by decide) (by decide) (by decide) (TG_t1 58 (by decide +kernel) rfl) rfl hb_84_58 ⟨by decide, by decide, by decide⟩ (by simp [okr]) (by simp [okr]) (pc2 := 8) rfl ?_
  refine e_putRF fl_X0_9 dX0_init_8 ⟨by decide, by decide, rfl⟩ fn_0_5 rfl rc_0 frc_0_5 (by decide) (h2 := H_85) rfl (pc2 := 11) rfl ?_
  exact e_vret rfl dX0_init_11
set_option maxRecDepth 20000 in
set_option maxHeartbeats 4000000 in
theorem c30_X0_init : Mt 2 (yX0_init, cX0_init, 1, none) [.ref 60] 60 H_86 none 61 H_87 := by
  refine Mt.of (by decide +kernel) (by decide) (Nat.le_of_ble_eq_true rfl) ?_
  show Ev 2 (yX0_init, cX0_init, 1, none) 60 none 61 H_87 0 60 [(0, .ref 60)] [] H_86
  refine e_aload_n dX0_init_0 0 rfl rfl (pc2 := 1) rfl ?_
  refine e_obji dX0_init_1 (TG_t1 108 (by decide +kernel) rfl) tgo_1 tgo_2 (by decide) (Nat.le_of_ble_eq_true rfl) (pc2 := 4) rfl ?_
  refine e_aload_n dX0_init_4 0 rfl rfl (pc2 := 5) rfl ?_
  refine e_iconst (x := 3) dX0_init_5 (by decide) (pc2 := 6) rfl ?_
  refine e_newI (m0 := 3) dX0_init_6 (by decide) (by decide) (by decide) (TG_t1 58 (by decide +kernel) rfl) rfl hb_86_60 ⟨by decide, by decide, by decide⟩ (by simp [okr]) (by simp [okr]) (pc2 := 8) rfl ?_
  refine e_putRF fl_X0_9 dX0_init_8 ⟨by decide, by decide, rfl⟩ fn_0_5 rfl rc_0 frc_0_5 (by decide) (h2 := H_87) rfl (pc2 := 11) rfl ?_
  exact e_vret rfl dX0_init_11
set_option maxRecDepth 20000 in
set_option maxHeartbeats 4000000 in
theorem c31_X0_init : Mt 2 (yX0_init, cX0_init, 1, none) [.ref 62] 62 H_88 none 63 H_89 := by
  refine Mt.of (by decide +kernel) (by decide) (Nat.le_of_ble_eq_true rfl) ?_
  show Ev 2 (yX0_init, cX0_init, 1, none) 62 none 63 H_89 0 62 [(0, .ref 62)] [] H_88
  refine e_aload_n dX0_init_0 0 rfl rfl (pc2 := 1) rfl ?_
  refine e_obji dX0_init_1 (TG_t1 108 (by decide +kernel) rfl) tgo_1 tgo_2 (by decide) (Nat.le_of_ble_eq_true rfl) (pc2 := 4) rfl ?_
  refine e_aload_n dX0_init_4 0 rfl rfl (pc2 := 5) rfl ?_
  refine e_iconst (x := 3) dX0_init_5 (by decide) (pc2 := 6) rfl ?_
  refine e_newI (m0 := 3) dX0_init_6 (by decide) (by decide) (by decide) (TG_t1 58 (by decide +kernel) rfl) rfl hb_88_62 ⟨by decide, by decide, by decide⟩ (by simp [okr]) (by simp [okr]) (pc2 := 8) rfl ?_
  refine e_putRF fl_X0_9 dX0_init_8 ⟨by decide, by decide, rfl⟩ fn_0_5 rfl rc_0 frc_0_5 (by decide) (h2 := H_89) rfl (pc2 := 11) rfl ?_
  exact e_vret rfl dX0_init_11
set_option maxRecDepth 20000 in
set_option maxHeartbeats 4000000 in
theorem c18_X4_init : Mt 3 (yX4_init, cX4_init, 2, none) [.ref 38] 38 H_50 none 63 H_90 := by
  refine Mt.of (by decide +kernel) (by decide) (Nat.le_of_ble_eq_true rfl) ?_
  show Ev 3 (yX4_init, cX4_init, 2, none) 38 none 63 H_90 0 38 [(0, .ref 38)] [] H_50
  refine e_aload_n dX4_init_0 0 rfl rfl (pc2 := 1) rfl ?_
  refine e_obji dX4_init_1 (TG_t1 40 (by decide +kernel) rfl) tgo_1 tgo_2 (by decide) (Nat.le_of_ble_eq_true rfl) (pc2 := 4) rfl ?_
  refine e_aload_n dX4_init_4 0 rfl rfl (pc2 := 5) rfl ?_
  refine e_iconst (x := 4) dX4_init_5 (by decide) (pc2 := 6) rfl ?_
  refine e_newI (m0 := 4) dX4_init_6 (by decide) (by decide) (by decide) (TG_t1 58 (by decide +kernel) rfl) rfl hb_50_38 ⟨by decide, by decide, by decide⟩ (by simp [okr]) (by simp [okr]) (pc2 := 8) rfl ?_
  refine e_putRF fl_X4_9 dX4_init_8 ⟨by decide, by decide, rfl⟩ fn_4_7 rfl rc_4 frc_4_7 (by decide) (h2 := H_51) rfl (pc2 := 11) rfl ?_
  refine e_aload_n dX4_init_11 0 rfl rfl (pc2 := 12) rfl ?_
  refine e_new dX4_init_12 fd_2 (TG_t1 41 (by decide +kernel) rfl) (TG_t1 42 (by decide +kernel) rfl) (TG_t1 3 (by decide +kernel) rfl) rfl hb_51_39 ⟨by decide, by decide, by decide⟩ (by simp [okr]) (by simp [okr]) (pc2 := 15) rfl ?_
  refine e_dup dX4_init_15 rfl (pc2 := 16) rfl ?_
  refine e_callI c19_X2_init dX4_init_16 ci_X4_17 rfl (by decide) (Nat.le_of_ble_eq_true rfl) ⟨by decide, by decide, by decide⟩ (by simp [okr2]) (by simp [okr2]) rfl (pc2 := 19) rfl ?_
  refine e_putRF fl_X4_18 dX4_init_19 ⟨by decide, by decide, rfl⟩ fn_4_8 rfl rc_4 fr_4_8 (by decide) (h2 := H_54) rfl (pc2 := 22) rfl ?_
  refine e_aload_n dX4_init_22 0 rfl rfl (pc2 := 23) rfl ?_
  refine e_bipush (x := 6) dX4_init_23 (by decide) (pc2 := 25) rfl ?_
  refine e_newL (m0 := 6) dX4_init_25 (by decide) (by decide) (by decide) (TG_t1 103 (by decide +kernel) rfl) rfl hb_54_42 ⟨by decide, by decide, by decide⟩ (by simp [okr]) (by simp [okr]) (pc2 := 27) rfl ?_
  refine e_putRF fl_X4_22 dX4_init_27 ⟨by decide, by decide, rfl⟩ fn_4_10 rfl rc_4 frc_4_10 (by decide) (h2 := H_55) rfl (pc2 := 30) rfl ?_
  refine e_aload_n dX4_init_30 0 rfl rfl (pc2 := 31) rfl ?_
  refine e_bipush (x := 6) dX4_init_31 (by decide) (pc2 := 33) rfl ?_
  refine e_newI (m0 := 6) dX4_init_33 (by decide) (by decide) (by decide) (TG_t1 58 (by decide +kernel) rfl) rfl hb_55_43 ⟨by decide, by decide, by decide⟩ (by simp [okr]) (by simp [okr]) (pc2 := 35) rfl ?_
  refine e_putRF fl_X4_26 dX4_init_35 ⟨by decide, by decide, rfl⟩ fn_4_11 rfl rc_4 frc_4_11 (by decide) (h2 := H_56) rfl (pc2 := 38) rfl ?_
  refine e_aload_n dX4_init_38 0 rfl rfl (pc2 := 39) rfl ?_
  refine e_iconst (x := 5) dX4_init_39 (by decide) (pc2 := 40) rfl ?_
  refine e_newq5 (m0 := 5) dX4_init_40 (TG_t1 59 (by decide +kernel) rfl) (by decide) (by decide) (by decide) rfl hb_56_44 ⟨by decide, by decide, by decide⟩ (by simp [okr]) (by simp [okr]) (pc2 := 43) rfl ?_
  refine e_putRF fl_X4_31 dX4_init_43 ⟨by decide, by decide, rfl⟩ fn_4_13 rfl rc_4 frc_4_13 (by decide) (h2 := H_57) rfl (pc2 := 46) rfl ?_
  refine e_aload_n dX4_init_46 0 rfl rfl (pc2 := 47) rfl ?_
  refine e_bipush (x := 6) dX4_init_47 (by decide) (pc2 := 49) rfl ?_
  refine e_newq6 (m0 := 6) dX4_init_49 (TG_t1 61 (by decide +kernel) rfl) (by decide) (by decide) (by decide) rfl hb_57_45 ⟨by decide, by decide, by decide⟩ (by simp [okr]) (by simp [okr]) (pc2 := 52) rfl ?_
  refine e_putRF fl_X4_37 dX4_init_52 ⟨by decide, by decide, rfl⟩ fn_4_15 rfl rc_4 frc_4_15 (by decide) (h2 := H_58) rfl (pc2 := 55) rfl ?_
  refine e_aload_n dX4_init_55 0 rfl rfl (pc2 := 56) rfl ?_
  refine e_callVn c20_X4_clear dX4_init_56 cv_X4_41 rfl ⟨by decide, by decide, rfl⟩ rc_4 (by decide) (Nat.le_of_ble_eq_true rfl) ⟨by decide, by decide +kernel⟩ rfl (pc2 := 59) rfl ?_
  refine e_iconst (x := 0) dX4_init_59 (by decide) (pc2 := 60) rfl ?_
  refine e_istore_n dX4_init_60 rfl (by decide) rfl (ls' := [(0, .ref 38), (1, .int 0)]) [1, 0] rfl (pc2 := 61) rfl ?_
  refine e_iload_n dX4_init_61 1 rfl rfl (pc2 := 62) rfl ?_
  refine e_aload_n dX4_init_62 0 rfl rfl (pc2 := 63) rfl ?_
  refine e_getR (r := 45) fl_X4_31 dX4_init_63 ⟨by decide, by decide, rfl⟩ (by decide +kernel) (by decide) (pc2 := 66) rfl ?_
  refine e_alen (x := 5) dX4_init_66 ⟨by decide, by decide, rfl⟩ (by decide) (by decide) (pc2 := 67) rfl ?_
  refine e_icmp_ge (tgt := 89) dX4_init_67 (by decide) (pc2 := 70) rfl (fun c => absurd c (by decide)) (fun _ => ?_)
  refine e_aload_n dX4_init_70 0 rfl rfl (pc2 := 71) rfl ?_
  refine e_getR (r := 45) fl_X4_31 dX4_init_71 ⟨by decide, by decide, rfl⟩ (by decide +kernel) (by decide) (pc2 := 74) rfl ?_
  refine e_iload_n dX4_init_74 1 rfl rfl (pc2 := 75) rfl ?_
  refine e_new dX4_init_75 fd_9 (TG_t1 59 (by decide +kernel) rfl) (TG_t1 67 (by decide +kernel) rfl) (TG_t1 4 (by decide +kernel) rfl) rfl hb_73_46 ⟨by decide, by decide, by decide⟩ (by simp [okr]) (by simp [okr]) (pc2 := 78) rfl ?_
  refine e_dup dX4_init_78 rfl (pc2 := 79) rfl ?_
  refine e_callI c21_X9_init dX4_init_79 ci_X4_44 rfl (by decide) (Nat.le_of_ble_eq_true rfl) ⟨by decide, by decide, by decide⟩ (by simp [okr2]) (by simp [okr2]) rfl (pc2 := 82) rfl ?_
  refine e_aast (ci := 9) dX4_init_82 ⟨by decide, by decide, rfl⟩ (by decide) ⟨by decide, by decide, rfl⟩ (inb_v (by decide)) (h2 := H_74) rfl (pc2 := 83) rfl ?_
  refine e_iinc dX4_init_83 1 rfl (c9 := 1) (by decide) (y := 1) (by decide) (by decide) (ls' := [(0, .ref 38), (1, .int 1)]) [1, 0] rfl (pc2 := 86) rfl ?_
  refine e_goto (tgt := 61) dX4_init_86 (by decide) ?_
  refine e_iload_n dX4_init_61 1 rfl rfl (pc2 := 62) rfl ?_
  refine e_aload_n dX4_init_62 0 rfl rfl (pc2 := 63) rfl ?_
  refine e_getR (r := 45) fl_X4_31 dX4_init_63 ⟨by decide, by decide, rfl⟩ (by decide +kernel) (by decide) (pc2 := 66) rfl ?_
  refine e_alen (x := 5) dX4_init_66 ⟨by decide, by decide, rfl⟩ (by decide) (by decide) (pc2 := 67) rfl ?_
  refine e_icmp_ge (tgt := 89) dX4_init_67 (by decide) (pc2 := 70) rfl (fun c => absurd c (by decide)) (fun _ => ?_)
  refine e_aload_n dX4_init_70 0 rfl rfl (pc2 := 71) rfl ?_
  refine e_getR (r := 45) fl_X4_31 dX4_init_71 ⟨by decide, by decide, rfl⟩ (by decide +kernel) (by decide) (pc2 := 74) rfl ?_
  refine e_iload_n dX4_init_74 1 rfl rfl (pc2 := 75) rfl ?_
  refine e_new dX4_init_75 fd_9 (TG_t1 59 (by decide +kernel) rfl) (TG_t1 67 (by decide +kernel) rfl) (TG_t1 4 (by decide +kernel) rfl) rfl hb_74_47 ⟨by decide, by decide, by decide⟩ (by simp [okr]) (by simp [okr]) (pc2 := 78) rfl ?_
  refine e_dup dX4_init_78 rfl (pc2 := 79) rfl ?_
  refine e_callI c22_X9_init dX4_init_79 ci_X4_44 rfl (by decide) (Nat.le_of_ble_eq_true rfl) ⟨by decide, by decide, by decide⟩ (by simp [okr2]) (by simp [okr2]) rfl (pc2 := 82) rfl ?_
  refine e_aast (ci := 9) dX4_init_82 ⟨by decide, by decide, rfl⟩ (by decide) ⟨by decide, by decide, rfl⟩ (inb_v (by decide)) (h2 := H_75) rfl (pc2 := 83) rfl ?_
  refine e_iinc dX4_init_83 1 rfl (c9 := 1) (by decide) (y := 2) (by decide) (by decide) (ls' := [(0, .ref 38), (1, .int 2)]) [1, 0] rfl (pc2 := 86) rfl ?_
  refine e_goto (tgt := 61) dX4_init_86 (by decide) ?_
  refine e_iload_n dX4_init_61 1 rfl rfl (pc2 := 62) rfl ?_
  refine e_aload_n dX4_init_62 0 rfl rfl (pc2 := 63) rfl ?_
  refine e_getR (r := 45) fl_X4_31 dX4_init_63 ⟨by decide, by decide, rfl⟩ (by decide +kernel) (by decide) (pc2 := 66) rfl ?_
  refine e_alen (x := 5) dX4_init_66 ⟨by decide, by decide, rfl⟩ (by decide) (by decide) (pc2 := 67) rfl ?_
  refine e_icmp_ge (tgt := 89) dX4_init_67 (by decide) (pc2 := 70) rfl (fun c => absurd c (by decide)) (fun _ => ?_)
  refine e_aload_n dX4_init_70 0 rfl rfl (pc2 := 71) rfl ?_
  refine e_getR (r := 45) fl_X4_31 dX4_init_71 ⟨by decide, by decide, rfl⟩ (by decide +kernel) (by decide) (pc2 := 74) rfl ?_
  refine e_iload_n dX4_init_74 1 rfl rfl (pc2 := 75) rfl ?_
  refine e_new dX4_init_75 fd_9 (TG_t1 59 (by decide +kernel) rfl) (TG_t1 67 (by decide +kernel) rfl) (TG_t1 4 (by decide +kernel) rfl) rfl hb_75_48 ⟨by decide, by decide, by decide⟩ (by simp [okr]) (by simp [okr]) (pc2 := 78) rfl ?_
  refine e_dup dX4_init_78 rfl (pc2 := 79) rfl ?_
  refine e_callI c23_X9_init dX4_init_79 ci_X4_44 rfl (by decide) (Nat.le_of_ble_eq_true rfl) ⟨by decide, by decide, by decide⟩ (by simp [okr2]) (by simp [okr2]) rfl (pc2 := 82) rfl ?_
  refine e_aast (ci := 9) dX4_init_82 ⟨by decide, by decide, rfl⟩ (by decide) ⟨by decide, by decide, rfl⟩ (inb_v (by decide)) (h2 := H_76) rfl (pc2 := 83) rfl ?_
  refine e_iinc dX4_init_83 1 rfl (c9 := 1) (by decide) (y := 3) (by decide) (by decide) (ls' := [(0, .ref 38), (1, .int 3)]) [1, 0] rfl (pc2 := 86) rfl ?_
  refine e_goto (tgt := 61) dX4_init_86 (by decide) ?_
  refine e_iload_n dX4_init_61 1 rfl rfl (pc2 := 62) rfl ?_
  refine e_aload_n dX4_init_62 0 rfl rfl (pc2 := 63) rfl ?_
  refine e_getR (r := 45) fl_X4_31 dX4_init_63 ⟨by decide, by decide, rfl⟩ (by decide +kernel) (by decide) (pc2 := 66) rfl ?_
  refine e_alen (x := 5) dX4_init_66 ⟨by decide, by decide, rfl⟩ (by decide) (by decide) (pc2 := 67) rfl ?_
  refine e_icmp_ge (tgt := 89) dX4_init_67 (by decide) (pc2 := 70) rfl (fun c => absurd c (by decide)) (fun _ => ?_)
  refine e_aload_n dX4_init_70 0 rfl rfl (pc2 := 71) rfl ?_
  refine e_getR (r := 45) fl_X4_31 dX4_init_71 ⟨by decide, by decide, rfl⟩ (by decide +kernel) (by decide) (pc2 := 74) rfl ?_
  refine e_iload_n dX4_init_74 1 rfl rfl (pc2 := 75) rfl ?_
  refine e_new dX4_init_75 fd_9 (TG_t1 59 (by decide +kernel) rfl) (TG_t1 67 (by decide +kernel) rfl) (TG_t1 4 (by decide +kernel) rfl) rfl hb_76_49 ⟨by decide, by decide, by decide⟩ (by simp [okr]) (by simp [okr]) (pc2 := 78) rfl ?_
  refine e_dup dX4_init_78 rfl (pc2 := 79) rfl ?_
  refine e_callI c24_X9_init dX4_init_79 ci_X4_44 rfl (by decide) (Nat.le_of_ble_eq_true rfl) ⟨by decide, by decide, by decide⟩ (by simp [okr2]) (by simp [okr2]) rfl (pc2 := 82) rfl ?_
  refine e_aast (ci := 9) dX4_init_82 ⟨by decide, by decide, rfl⟩ (by decide) ⟨by decide, by decide, rfl⟩ (inb_v (by decide)) (h2 := H_77) rfl (pc2 := 83) rfl ?_
  refine e_iinc dX4_init_83 1 rfl (c9 := 1) (by decide) (y := 4) (by decide) (by decide) (ls' := [(0, .ref 38), (1, .int 4)]) [1, 0] rfl (pc2 := 86) rfl ?_
  refine e_goto (tgt := 61) dX4_init_86 (by decide) ?_
  refine e_iload_n dX4_init_61 1 rfl rfl (pc2 := 62) rfl ?_
  refine e_aload_n dX4_init_62 0 rfl rfl (pc2 := 63) rfl ?_
  refine e_getR (r := 45) fl_X4_31 dX4_init_63 ⟨by decide, by decide, rfl⟩ (by decide +kernel) (by decide) (pc2 := 66) rfl ?_
  refine e_alen (x := 5) dX4_init_66 ⟨by decide, by decide, rfl⟩ (by decide) (by decide) (pc2 := 67) rfl ?_
  refine e_icmp_ge (tgt := 89) dX4_init_67 (by decide) (pc2 := 70) rfl (fun c => absurd c (by decide)) (fun _ => ?_)
  refine e_aload_n dX4_init_70 0 rfl rfl (pc2 := 71) rfl ?_
  refine e_getR (r := 45) fl_X4_31 dX4_init_71 ⟨by decide, by decide, rfl⟩ (by decide +kernel) (by decide) (pc2 := 74) rfl ?_
  refine e_iload_n dX4_init_74 1 rfl rfl (pc2 := 75) rfl ?_
  refine e_new dX4_init_75 fd_9 (TG_t1 59 (by decide +kernel) rfl) (TG_t1 67 (by decide +kernel) rfl) (TG_t1 4 (by decide +kernel) rfl) rfl hb_77_50 ⟨by decide, by decide, by decide⟩ (by simp [okr]) (by simp [okr]) (pc2 := 78) rfl ?_
  refine e_dup dX4_init_78 rfl (pc2 := 79) rfl ?_
  refine e_callI c25_X9_init dX4_init_79 ci_X4_44 rfl (by decide) (Nat.le_of_ble_eq_true rfl) ⟨by decide, by decide, by decide⟩ (by simp [okr2]) (by simp [okr2]) rfl (pc2 := 82) rfl ?_
  refine e_aast (ci := 9) dX4_init_82 ⟨by decide, by decide, rfl⟩ (by decide) ⟨by decide, by decide, rfl⟩ (inb_v (by decide)) (h2 := H_78) rfl (pc2 := 83) rfl ?_
  refine e_iinc dX4_init_83 1 rfl (c9 := 1) (by decide) (y := 5) (by decide) (by decide) (ls' := [(0, .ref 38), (1, .int 5)]) [1, 0] rfl (pc2 := 86) rfl ?_
  refine e_goto (tgt := 61) dX4_init_86 (by decide) ?_
  refine e_iload_n dX4_init_61 1 rfl rfl (pc2 := 62) rfl ?_
  refine e_aload_n dX4_init_62 0 rfl rfl (pc2 := 63) rfl ?_
  refine e_getR (r := 45) fl_X4_31 dX4_init_63 ⟨by decide, by decide, rfl⟩ (by decide +kernel) (by decide) (pc2 := 66) rfl ?_
  refine e_alen (x := 5) dX4_init_66 ⟨by decide, by decide, rfl⟩ (by decide) (by decide) (pc2 := 67) rfl ?_
  refine e_icmp_ge (tgt := 89) dX4_init_67 (by decide) (pc2 := 70) rfl (fun _ => ?_) (fun c => absurd (by decide) c)
  refine e_iconst (x := 0) dX4_init_89 (by decide) (pc2 := 90) rfl ?_
  refine e_istore_n dX4_init_90 rfl (by decide) rfl (ls' := [(0, .ref 38), (1, .int 0)]) [1, 0] rfl (pc2 := 91) rfl ?_
  refine e_iload_n dX4_init_91 1 rfl rfl (pc2 := 92) rfl ?_
  refine e_aload_n dX4_init_92 0 rfl rfl (pc2 := 93) rfl ?_
  refine e_getR (r := 46) fl_X4_37 dX4_init_93 ⟨by decide, by decide, rfl⟩ (by decide +kernel) (by decide) (pc2 := 96) rfl ?_
  refine e_alen (x := 6) dX4_init_96 ⟨by decide, by decide, rfl⟩ (by decide) (by decide) (pc2 := 97) rfl ?_
  refine e_icmp_ge (tgt := 119) dX4_init_97 (by decide) (pc2 := 100) rfl (fun c => absurd c (by decide)) (fun _ => ?_)
  refine e_aload_n dX4_init_100 0 rfl rfl (pc2 := 101) rfl ?_
  refine e_getR (r := 46) fl_X4_37 dX4_init_101 ⟨by decide, by decide, rfl⟩ (by decide +kernel) (by decide) (pc2 := 104) rfl ?_
  refine e_iload_n dX4_init_104 1 rfl rfl (pc2 := 105) rfl ?_
  refine e_new dX4_init_105 fd_0 (TG_t1 61 (by decide +kernel) rfl) (TG_t1 104 (by decide +kernel) rfl) (TG_t1 5 (by decide +kernel) rfl) rfl hb_78_51 ⟨by decide, by decide, by decide⟩ (by simp [okr]) (by simp [okr]) (pc2 := 108) rfl ?_
  refine e_dup dX4_init_108 rfl (pc2 := 109) rfl ?_
  refine e_callI c26_X0_init dX4_init_109 ci_X4_45 rfl (by decide) (Nat.le_of_ble_eq_true rfl) ⟨by decide, by decide, by decide⟩ (by simp [okr2]) (by simp [okr2]) rfl (pc2 := 112) rfl ?_
  refine e_aast (ci := 0) dX4_init_112 ⟨by decide, by decide, rfl⟩ (by decide) ⟨by decide, by decide, rfl⟩ (inb_v (by decide)) (h2 := H_80) rfl (pc2 := 113) rfl ?_
  refine e_iinc dX4_init_113 1 rfl (c9 := 1) (by decide) (y := 1) (by decide) (by decide) (ls' := [(0, .ref 38), (1, .int 1)]) [1, 0] rfl (pc2 := 116) rfl ?_
  refine e_goto (tgt := 91) dX4_init_116 (by decide) ?_
  refine e_iload_n dX4_init_91 1 rfl rfl (pc2 := 92) rfl ?_
  refine e_aload_n dX4_init_92 0 rfl rfl (pc2 := 93) rfl ?_
  refine e_getR (r := 46) fl_X4_37 dX4_init_93 ⟨by decide, by decide, rfl⟩ (by decide +kernel) (by decide) (pc2 := 96) rfl ?_
  refine e_alen (x := 6) dX4_init_96 ⟨by decide, by decide, rfl⟩ (by decide) (by decide) (pc2 := 97) rfl ?_
  refine e_icmp_ge (tgt := 119) dX4_init_97 (by decide) (pc2 := 100) rfl (fun c => absurd c (by decide)) (fun _ => ?_)
  refine e_aload_n dX4_init_100 0 rfl rfl (pc2 := 101) rfl ?_
  refine e_getR (r := 46) fl_X4_37 dX4_init_101 ⟨by decide, by decide, rfl⟩ (by decide +kernel) (by decide) (pc2 := 104) rfl ?_
  refine e_iload_n dX4_init_104 1 rfl rfl (pc2 := 105) rfl ?_
  refine e_new dX4_init_105 fd_0 (TG_t1 61 (by decide +kernel) rfl) (TG_t1 104 (by decide +kernel) rfl) (TG_t1 5 (by decide +kernel) rfl) rfl hb_80_53 ⟨by decide, by decide, by decide⟩ (by simp [okr]) (by simp [okr]) (pc2 := 108) rfl ?_
  refine e_dup dX4_init_108 rfl (pc2 := 109) rfl ?_
  refine e_callI c27_X0_init dX4_init_109 ci_X4_45 rfl (by decide) (Nat.le_of_ble_eq_true rfl) ⟨by decide, by decide, by decide⟩ (by simp [okr2]) (by simp [okr2]) rfl (pc2 := 112) rfl ?_
  refine e_aast (ci := 0) dX4_init_112 ⟨by decide, by decide, rfl⟩ (by decide) ⟨by decide, by decide, rfl⟩ (inb_v (by decide)) (h2 := H_82) rfl (pc2 := 113) rfl ?_
  refine e_iinc dX4_init_113 1 rfl (c9 := 1) (by decide) (y := 2) (by decide) (by decide) (ls' := [(0, .ref 38), (1, .int 2)]) [1, 0] rfl (pc2 := 116) rfl ?_
  refine e_goto (tgt := 91) dX4_init_116 (by decide) ?_
  refine e_iload_n dX4_init_91 1 rfl rfl (pc2 := 92) rfl ?_
  refine e_aload_n dX4_init_92 0 rfl rfl (pc2 := 93) rfl ?_
  refine e_getR (r := 46) fl_X4_37 dX4_init_93 ⟨by decide, by decide, rfl⟩ (by decide +kernel) (by decide) (pc2 := 96) rfl ?_
  refine e_alen (x := 6) dX4_init_96 ⟨by decide, by decide, rfl⟩ (by decide) (by decide) (pc2 := 97) rfl ?_
  refine e_icmp_ge (tgt := 119) dX4_init_97 (by decide) (pc2 := 100) rfl (fun c => absurd c (by decide)) (fun _ => ?_)
  refine e_aload_n dX4_init_100 0 rfl rfl (pc2 := 101) rfl ?_
  refine e_getR (r := 46) fl_X4_37 dX4_init_101 ⟨by decide, by decide, rfl⟩ (by decide +kernel) (by decide) (pc2 := 104) rfl ?_
  refine e_iload_n dX4_init_104 1 rfl rfl (pc2 := 105) rfl ?_
  refine e_new dX4_init_105 fd_0 (TG_t1 61 (by decide +kernel) rfl) (TG_t1 104 (by decide +kernel) rfl) (TG_t1 5 (by decide +kernel) rfl) rfl hb_82_55 ⟨by decide, by decide, by decide⟩ (by simp [okr]) (by simp [okr]) (pc2 := 108) rfl ?_
  refine e_dup dX4_init_108 rfl (pc2 := 109) rfl ?_
  refine e_callI c28_X0_init dX4_init_109 ci_X4_45 rfl (by decide) (Nat.le_of_ble_eq_true rfl) ⟨by decide, by decide, by decide⟩ (by simp [okr2]) (by simp [okr2]) rfl (pc2 := 112) rfl ?_
  refine e_aast (ci := 0) dX4_init_112 ⟨by decide, by decide, rfl⟩ (by decide) ⟨by decide, by decide, rfl⟩ (inb_v (by decide)) (h2 := H_84) rfl (pc2 := 113) rfl ?_
  refine e_iinc dX4_init_113 1 rfl (c9 := 1) (by decide) (y := 3) (by decide) (by decide) (ls' := [(0, .ref 38), (1, .int 3)]) [1, 0] rfl (pc2 := 116) rfl ?_
  refine e_goto (tgt := 91) dX4_init_116 (by decide) ?_
  refine e_iload_n dX4_init_91 1 rfl rfl (pc2 := 92) rfl ?_
  refine e_aload_n dX4_init_92 0 rfl rfl (pc2 := 93) rfl ?_
  refine e_getR (r := 46) fl_X4_37 dX4_init_93 ⟨by decide, by decide, rfl⟩ (by decide +kernel) (by decide) (pc2 := 96) rfl ?_
  refine e_alen (x := 6) dX4_init_96 ⟨by decide, by decide, rfl⟩ (by decide) (by decide) (pc2 := 97) rfl ?_
  refine e_icmp_ge (tgt := 119) dX4_init_97 (by decide) (pc2 := 100) rfl (fun c => absurd c (by decide)) (fun _ => ?_)
  refine e_aload_n dX4_init_100 0 rfl rfl (pc2 := 101) rfl ?_
  refine e_getR (r := 46) fl_X4_37 dX4_init_101 ⟨by decide, by decide, rfl⟩ (by decide +kernel) (by decide) (pc2 := 104) rfl ?_
  refine e_iload_n dX4_init_104 1 rfl rfl (pc2 := 105) rfl ?_
  refine e_new dX4_init_105 fd_0 (TG_t1 61 (by decide +kernel) rfl) (TG_t1 104 (by decide +kernel) rfl) (TG_t1 5 (by decide +kernel) rfl) rfl hb_84_57 ⟨by decide, by decide, by decide⟩ (by simp [okr]) (by simp [okr]) (pc2 := 108) rfl ?_
  refine e_dup dX4_init_108 rfl (pc2 := 109) rfl ?_
  refine e_callI c29_X0_init dX4_init_109 ci_X4_45 rfl (by decide) (Nat.le_of_ble_eq_true rfl) ⟨by decide, by decide, by decide⟩ (by simp [okr2]) (by simp [okr2]) rfl (pc2 := 112) rfl ?_
  refine e_aast (ci := 0) dX4_init_112 ⟨by decide, by decide, rfl⟩ (by decide) ⟨by decide, by decide, rfl⟩ (inb_v (by decide)) (h2 := H_86) rfl (pc2 := 113) rfl ?_
  refine e_iinc dX4_init_113 1 rfl (c9 := 1) (by decide) (y := 4) (by decide) (by decide) (ls' := [(0, .ref 38), (1, .int 4)]) [1, 0] rfl (pc2 := 116) rfl ?_
  refine e_goto (tgt := 91) dX4_init_116 (by decide) ?_
  refine e_iload_n dX4_init_91 1 rfl rfl (pc2 := 92) rfl ?_
  refine e_aload_n dX4_init_92 0 rfl rfl (pc2 := 93) rfl ?_
  refine e_getR (r := 46) fl_X4_37 dX4_init_93 ⟨by decide, by decide, rfl⟩ (by decide +kernel) (by decide) (pc2 := 96) rfl ?_
  refine e_alen (x := 6) dX4_init_96 ⟨by decide, by decide, rfl⟩ (by decide) (by decide) (pc2 := 97) rfl ?_
  refine e_icmp_ge (tgt := 119) dX4_init_97 (by decide) (pc2 := 100) rfl (fun c => absurd c (by decide)) (fun _ => ?_)
  refine e_aload_n dX4_init_100 0 rfl rfl (pc2 := 101) rfl ?_
  refine e_getR (r := 46) fl_X4_37 dX4_init_101 ⟨by decide, by decide, rfl⟩ (by decide +kernel) (by decide) (pc2 := 104) rfl ?_
  refine e_iload_n dX4_init_104 1 rfl rfl (pc2 := 105) rfl ?_
  refine e_new dX4_init_105 fd_0 (TG_t1 61 (by decide +kernel) rfl) (TG_t1 104 (by decide +kernel) rfl) (TG_t1 5 (by decide +kernel) rfl) rfl hb_86_59 ⟨by decide, by decide, by decide⟩ (by simp [okr]) (by simp [okr]) (pc2 := 108) rfl ?_
  refine e_dup dX4_init_108 rfl (pc2 := 109) rfl ?_
  refine e_callI c30_X0_init dX4_init_109 ci_X4_45 rfl (by decide) (Nat.le_of_ble_eq_true rfl) ⟨by decide, by decide, by decide⟩ (by simp [okr2]) (by simp [okr2]) rfl (pc2 := 112) rfl ?_
  refine e_aast (ci := 0) dX4_init_112 ⟨by decide, by decide, rfl⟩ (by decide) ⟨by decide, by decide, rfl⟩ (inb_v (by decide)) (h2 := H_88) rfl (pc2 := 113) rfl ?_
  refine e_iinc dX4_init_113 1 rfl (c9 := 1) (by decide) (y := 5) (by decide) (by decide) (ls' := [(0, .ref 38), (1, .int 5)]) [1, 0] rfl (pc2 := 116) rfl ?_
  refine e_goto (tgt := 91) dX4_init_116 (by decide) ?_
  refine e_iload_n dX4_init_91 1 rfl rfl (pc2 := 92) rfl ?_
  refine e_aload_n dX4_init_92 0 rfl rfl (pc2 := 93) rfl ?_
  refine e_getR (r := 46) fl_X4_37 dX4_init_93 ⟨by decide, by decide, rfl⟩ (by decide +kernel) (by decide) (pc2 := 96) rfl ?_
  refine e_alen (x := 6) dX4_init_96 ⟨by decide, by decide, rfl⟩ (by decide) (by decide) (pc2 := 97) rfl ?_
  refine e_icmp_ge (tgt := 119) dX4_init_97 (by decide) (pc2 := 100) rfl (fun c => absurd c (by decide)) (fun _ => ?_)
  refine e_aload_n dX4_init_100 0 rfl rfl (pc2 := 101) rfl ?_
  refine e_getR (r := 46) fl_X4_37 dX4_init_101 ⟨by decide, by decide, rfl⟩ (by decide +kernel) (by decide) (pc2 := 104) rfl ?_
  refine e_iload_n dX4_init_104 1 rfl rfl (pc2 := 105) rfl ?_
  refine e_new dX4_init_105 fd_0 (TG_t1 61 (by decide +kernel) rfl) (TG_t1 104 (by decide +kernel) rfl) (TG_t1 5 (by decide +kernel) rfl) rfl hb_88_61 ⟨by decide, by decide, by decide⟩ (by simp [okr]) (by simp [okr]) (pc2 := 108) rfl ?_
  refine e_dup dX4_init_108 rfl (pc2 := 109) rfl ?_
  refine e_callI c31_X0_init dX4_init_109 ci_X4_45 rfl (by decide) (Nat.le_of_ble_eq_true rfl) ⟨by decide, by decide, by decide⟩ (by simp [okr2]) (by simp [okr2]) rfl (pc2 := 112) rfl ?_
  refine e_aast (ci := 0) dX4_init_112 ⟨by decide, by decide, rfl⟩ (by decide) ⟨by decide, by decide, rfl⟩ (inb_v (by decide)) (h2 := H_90) rfl (pc2 := 113) rfl ?_
  refine e_iinc dX4_init_113 1 rfl (c9 := 1) (by decide) (y := 6) (by decide) (by decide) (ls' := [(0, .ref 38), (1, .int 6)]) [1, 0] rfl (pc2 := 116) rfl ?_
  refine e_goto (tgt := 91) dX4_init_116 (by decide) ?_
  refine e_iload_n dX4_init_91 1 rfl rfl (pc2 := 92) rfl ?_
  refine e_aload_n dX4_init_92 0 rfl rfl (pc2 := 93) rfl ?_
  refine e_getR (r := 46) fl_X4_37 dX4_init_93 ⟨by decide, by decide, rfl⟩ (by decide +kernel) (by decide) (pc2 := 96) rfl ?_
  refine e_alen (x := 6) dX4_init_96 ⟨by decide, by decide, rfl⟩ (by decide) (by decide) (pc2 := 97) rfl ?_
  refine e_icmp_ge (tgt := 119) dX4_init_97 (by decide) (pc2 := 100) rfl (fun _ => ?_) (fun c => absurd (by decide) c)
  exact e_vret rfl dX4_init_119
set_option maxRecDepth 20000 in
set_option maxHeartbeats 4000000 in
theorem c32_X7_init : Mt 2 (yX7_init, cX7_init, 1, none) [.ref 64] 64 H_90 none 68 H_94 := by
  refine Mt.of (by decide +kernel) (by decide) (Nat.le_of_ble_eq_true rfl) ?_
  show Ev 2 (yX7_init, cX7_init, 1, none) 64 none 68 H_94 0 64 [(0, .ref 64)] [] H_90
  refine e_aload_n dX7_init_0 0 rfl rfl (pc2 := 1) rfl ?_
  refine e_obji dX7_init_1 (TG_t2 1 (by decide +kernel) rfl) tgo_1 tgo_2 (by decide) (Nat.le_of_ble_eq_true rfl) (pc2 := 4) rfl ?_
  refine e_aload_n dX7_init_4 0 rfl rfl (pc2 := 5) rfl ?_
  refine e_iconst (x := 5) dX7_init_5 (by decide) (pc2 := 6) rfl ?_
  refine e_newI (m0 := 5) dX7_init_6 (by decide) (by decide) (by decide) (TG_t1 58 (by decide +kernel) rfl) rfl hb_90_64 ⟨by decide, by decide, by decide⟩ (by simp [okr]) (by simp [okr]) (pc2 := 8) rfl ?_
  refine e_putRF fl_X7_9 dX7_init_8 ⟨by decide, by decide, rfl⟩ fn_7_4 rfl rc_7 frc_7_4 (by decide) (h2 := H_91) rfl (pc2 := 11) rfl ?_
  refine e_aload_n dX7_init_11 0 rfl rfl (pc2 := 12) rfl ?_
  refine e_bipush (x := 120) dX7_init_12 (by decide) (pc2 := 14) rfl ?_
  refine e_newI (m0 := 120) dX7_init_14 (by decide) (by decide) (by decide) (TG_t1 58 (by decide +kernel) rfl) rfl hb_91_65 ⟨by decide, by decide, by decide⟩ (by simp [okr]) (by simp [okr]) (pc2 := 16) rfl ?_
  refine e_putRF fl_X7_15 dX7_init_16 ⟨by decide, by decide, rfl⟩ fn_7_5 rfl rc_7 frc_7_5 (by decide) (h2 := H_92) rfl (pc2 := 19) rfl ?_
  refine e_aload_n dX7_init_19 0 rfl rfl (pc2 := 20) rfl ?_
  refine e_bipush (x := 20) dX7_init_20 (by decide) (pc2 := 22) rfl ?_
  refine e_newI (m0 := 20) dX7_init_22 (by decide) (by decide) (by decide) (TG_t1 58 (by decide +kernel) rfl) rfl hb_92_66 ⟨by decide, by decide, by decide⟩ (by simp [okr]) (by simp [okr]) (pc2 := 24) rfl ?_
  refine e_putRF fl_X7_18 dX7_init_24 ⟨by decide, by decide, rfl⟩ fn_7_7 rfl rc_7 frc_7_7 (by decide) (h2 := H_93) rfl (pc2 := 27) rfl ?_
  refine e_aload_n dX7_init_27 0 rfl rfl (pc2 := 28) rfl ?_
  refine e_bipush (x := 12) dX7_init_28 (by decide) (pc2 := 30) rfl ?_
  refine e_newI (m0 := 12) dX7_init_30 (by decide) (by decide) (by decide) (TG_t1 58 (by decide +kernel) rfl) rfl hb_93_67 ⟨by decide, by decide, by decide⟩ (by simp [okr]) (by simp [okr]) (pc2 := 32) rfl ?_
  refine e_putRF fl_X7_21 dX7_init_32 ⟨by decide, by decide, rfl⟩ fn_7_9 rfl rc_7 frc_7_9 (by decide) (h2 := H_94) rfl (pc2 := 35) rfl ?_
  exact e_vret rfl dX7_init_35
set_option maxRecDepth 20000 in
set_option maxHeartbeats 4000000 in
theorem c33_X7_startWith : Mt 1 (yX7_startWith, cX7_startWith, 3, none) [.ref 64, .ref 38] 68 H_94 none 68 H_98 := by
  refine Mt.of (by decide +kernel) (by decide) (Nat.le_of_ble_eq_true rfl) ?_
  show Ev 1 (yX7_startWith, cX7_startWith, 3, none) 68 none 68 H_98 0 68 [(0, .ref 64), (1, .ref 38)] [] H_94
  refine e_aload_n dX7_startWith_0 0 rfl rfl (pc2 := 1) rfl ?_
  refine e_iconst (x := 0) dX7_startWith_1 (by decide) (pc2 := 2) rfl ?_
  refine e_putI fl_X7_24 dX7_startWith_2 ⟨by decide, by decide, rfl⟩ fn_7_0 (h2 := H_95) rfl (pc2 := 5) rfl ?_
  refine e_aload_n dX7_startWith_5 0 rfl rfl (pc2 := 6) rfl ?_
  refine e_aload_n dX7_startWith_6 1 rfl rfl (pc2 := 7) rfl ?_
  refine e_getI fl_X7_28 dX7_startWith_7 ⟨by decide, by decide, rfl⟩ (by decide) (pc2 := 10) rfl ?_
  refine ev_topI (y := 540) (by decide +kernel) ?_
  refine e_putI fl_X7_33 dX7_startWith_10 ⟨by decide, by decide, rfl⟩ fn_7_1 (h2 := H_96) rfl (pc2 := 13) rfl ?_
  refine e_aload_n dX7_startWith_13 0 rfl rfl (pc2 := 14) rfl ?_
  refine e_iconst (x := 0) dX7_startWith_14 (by decide) (pc2 := 15) rfl ?_
  refine e_putI fl_X7_34 dX7_startWith_15 ⟨by decide, by decide, rfl⟩ fn_7_2 (h2 := H_97) rfl (pc2 := 18) rfl ?_
  refine e_aload_n dX7_startWith_18 0 rfl rfl (pc2 := 19) rfl ?_
  refine e_aload_n dX7_startWith_19 1 rfl rfl (pc2 := 20) rfl ?_
  refine e_getI fl_X7_37 dX7_startWith_20 ⟨by decide, by decide, rfl⟩ (by decide) (pc2 := 23) rfl ?_
  refine ev_topI (y := 2) (by decide +kernel) ?_
  refine e_putI fl_X7_40 dX7_startWith_23 ⟨by decide, by decide, rfl⟩ fn_7_3 (h2 := H_98) rfl (pc2 := 26) rfl ?_
  refine e_iconst (x := 0) dX7_startWith_26 (by decide) (pc2 := 27) rfl ?_
  refine e_istore_n dX7_startWith_27 rfl (by decide) rfl (ls' := [(0, .ref 64), (1, .ref 38), (2, .int 0)]) [1, 2, 0] rfl (pc2 := 28) rfl ?_
  refine e_iload_n dX7_startWith_28 2 rfl rfl (pc2 := 29) rfl ?_
  refine e_aload_n dX7_startWith_29 1 rfl rfl (pc2 := 30) rfl ?_
  refine e_getI fl_X7_41 dX7_startWith_30 ⟨by decide, by decide, rfl⟩ (by decide) (pc2 := 33) rfl ?_
  refine ev_topI (y := 0) (by decide +kernel) ?_
  refine e_icmp_ge (tgt := 57) dX7_startWith_33 (by decide) (pc2 := 36) rfl (fun _ => ?_) (fun c => absurd (by decide) c)
  exact e_vret rfl dX7_startWith_57
set_option maxRecDepth 20000 in
set_option maxHeartbeats 4000000 in
theorem c35_X3_init : Mt 2 (yX3_init, cX3_init, 2, none) [.ref 70, .ref 36] 70 H_100 none 70 H_101 := by
  refine Mt.of (by decide +kernel) (by decide) (Nat.le_of_ble_eq_true rfl) ?_
  show Ev 2 (yX3_init, cX3_init, 2, none) 70 none 70 H_101 0 70 [(0, .ref 70), (1, .ref 36)] [] H_100
  refine e_aload_n dX3_init_0 0 rfl rfl (pc2 := 1) rfl ?_
  refine e_obji dX3_init_1 (TG_t2 118 (by decide +kernel) rfl) tgo_1 tgo_2 (by decide) (Nat.le_of_ble_eq_true rfl) (pc2 := 4) rfl ?_
  refine e_aload_n dX3_init_4 0 rfl rfl (pc2 := 5) rfl ?_
  refine e_aload_n dX3_init_5 1 rfl rfl (pc2 := 6) rfl ?_
  refine e_putRF fl_X3_9 dX3_init_6 ⟨by decide, by decide, rfl⟩ fn_3_0 rfl rc_3 fr_3_0 (by decide) (h2 := H_101) rfl (pc2 := 9) rfl ?_
  exact e_vret rfl dX3_init_9
set_option maxRecDepth 20000 in
set_option maxHeartbeats 4000000 in
theorem c34_X5_init : Mt 3 (yX5_init, cX5_init, 2, none) [.ref 69, .ref 36] 69 H_99 none 70 H_102 := by
  refine Mt.of (by decide +kernel) (by decide) (Nat.le_of_ble_eq_true rfl) ?_
  show Ev 3 (yX5_init, cX5_init, 2, none) 69 none 70 H_102 0 69 [(0, .ref 69), (1, .ref 36)] [] H_99
  refine e_aload_n dX5_init_0 0 rfl rfl (pc2 := 1) rfl ?_
  refine e_obji dX5_init_1 (TG_t2 112 (by decide +kernel) rfl) tgo_1 tgo_2 (by decide) (Nat.le_of_ble_eq_true rfl) (pc2 := 4) rfl ?_
  refine e_aload_n dX5_init_4 0 rfl rfl (pc2 := 5) rfl ?_
  refine e_aload_n dX5_init_5 1 rfl rfl (pc2 := 6) rfl ?_
  refine e_putRF fl_X5_9 dX5_init_6 ⟨by decide, by decide, rfl⟩ fn_5_0 rfl rc_5 fr_5_0 (by decide) (h2 := H_100) rfl (pc2 := 9) rfl ?_
  refine e_aload_n dX5_init_9 0 rfl rfl (pc2 := 10) rfl ?_
  refine e_new dX5_init_10 fd_3 (TG_t2 113 (by decide +kernel) rfl) (TG_t2 114 (by decide +kernel) rfl) (TG_t1 9 (by decide +kernel) rfl) rfl hb_100_69 ⟨by decide, by decide, by decide⟩ (by simp [okr]) (by simp [okr]) (pc2 := 13) rfl ?_
  refine e_dup dX5_init_13 rfl (pc2 := 14) rfl ?_
  refine e_aload_n dX5_init_14 1 rfl rfl (pc2 := 15) rfl ?_
  refine e_callI c35_X3_init dX5_init_15 ci_X5_17 rfl (by decide) (Nat.le_of_ble_eq_true rfl) ⟨by decide, by decide, by decide⟩ (by simp [okr2]) (by simp [okr2]) rfl (pc2 := 18) rfl ?_
  refine e_putRF fl_X5_20 dX5_init_18 ⟨by decide, by decide, rfl⟩ fn_5_1 rfl rc_5 fr_5_1 (by decide) (h2 := H_102) rfl (pc2 := 21) rfl ?_
  exact e_vret rfl dX5_init_21
set_option maxRecDepth 20000 in
set_option maxHeartbeats 4000000 in
theorem c36_X1_init : Mt 2 (yX1_init, cX1_init, 2, none) [.ref 71, .ref 36] 71 H_103 none 72 H_105 := by
  refine Mt.of (by decide +kernel) (by decide) (Nat.le_of_ble_eq_true rfl) ?_
  show Ev 2 (yX1_init, cX1_init, 2, none) 71 none 72 H_105 0 71 [(0, .ref 71), (1, .ref 36)] [] H_103
  refine e_aload_n dX1_init_0 0 rfl rfl (pc2 := 1) rfl ?_
  refine e_obji dX1_init_1 (TG_t2 138 (by decide +kernel) rfl) tgo_1 tgo_2 (by decide) (Nat.le_of_ble_eq_true rfl) (pc2 := 4) rfl ?_
  refine e_aload_n dX1_init_4 0 rfl rfl (pc2 := 5) rfl ?_
  refine e_bipush (x := 120) dX1_init_5 (by decide) (pc2 := 7) rfl ?_
  refine e_newI (m0 := 120) dX1_init_7 (by decide) (by decide) (by decide) (TG_t1 58 (by decide +kernel) rfl) rfl hb_103_71 ⟨by decide, by decide, by decide⟩ (by simp [okr]) (by simp [okr]) (pc2 := 9) rfl ?_
  refine e_putRF fl_X1_9 dX1_init_9 ⟨by decide, by decide, rfl⟩ fn_1_1 rfl rc_1 frc_1_1 (by decide) (h2 := H_104) rfl (pc2 := 12) rfl ?_
  refine e_aload_n dX1_init_12 0 rfl rfl (pc2 := 13) rfl ?_
  refine e_aload_n dX1_init_13 1 rfl rfl (pc2 := 14) rfl ?_
  refine e_putRF fl_X1_15 dX1_init_14 ⟨by decide, by decide, rfl⟩ fn_1_0 rfl rc_1 fr_1_0 (by decide) (h2 := H_105) rfl (pc2 := 17) rfl ?_
  exact e_vret rfl dX1_init_17
set_option maxRecDepth 20000 in
set_option maxHeartbeats 4000000 in
theorem c37_X6_init : Mt 2 (yX6_init, cX6_init, 3, none) [.ref 73, .ref 38, .ref 64] 73 H_108 none 80 H_117 := by
  refine Mt.of (by decide +kernel) (by decide) (Nat.le_of_ble_eq_true rfl) ?_
  show Ev 2 (yX6_init, cX6_init, 3, none) 73 none 80 H_117 0 73 [(0, .ref 73), (1, .ref 38), (2, .ref 64)] [] H_108
  refine e_aload_n dX6_init_0 0 rfl rfl (pc2 := 1) rfl ?_
  refine e_obji dX6_init_1 (TG_t2 156 (by decide +kernel) rfl) tgo_1 tgo_2 (by decide) (Nat.le_of_ble_eq_true rfl) (pc2 := 4) rfl ?_
  refine e_aload_n dX6_init_4 0 rfl rfl (pc2 := 5) rfl ?_
  refine e_bipush (x := 6) dX6_init_5 (by decide) (pc2 := 7) rfl ?_
  refine e_newI (m0 := 6) dX6_init_7 (by decide) (by decide) (by decide) (TG_t1 58 (by decide +kernel) rfl) rfl hb_108_73 ⟨by decide, by decide, by decide⟩ (by simp [okr]) (by simp [okr]) (pc2 := 9) rfl ?_
  refine e_putRF fl_X6_9 dX6_init_9 ⟨by decide, by decide, rfl⟩ fn_6_8 rfl rc_6 frc_6_8 (by decide) (h2 := H_109) rfl (pc2 := 12) rfl ?_
  refine e_aload_n dX6_init_12 0 rfl rfl (pc2 := 13) rfl ?_
  refine e_bipush (x := 6) dX6_init_13 (by decide) (pc2 := 15) rfl ?_
  refine e_newI (m0 := 6) dX6_init_15 (by decide) (by decide) (by decide) (TG_t1 58 (by decide +kernel) rfl) rfl hb_109_74 ⟨by decide, by decide, by decide⟩ (by simp [okr]) (by simp [okr]) (pc2 := 17) rfl ?_
  refine e_putRF fl_X6_15 dX6_init_17 ⟨by decide, by decide, rfl⟩ fn_6_9 rfl rc_6 frc_6_9 (by decide) (h2 := H_110) rfl (pc2 := 20) rfl ?_
  refine e_aload_n dX6_init_20 0 rfl rfl (pc2 := 21) rfl ?_
  refine e_bipush (x := 6) dX6_init_21 (by decide) (pc2 := 23) rfl ?_
  refine e_newI (m0 := 6) dX6_init_23 (by decide) (by decide) (by decide) (TG_t1 58 (by decide +kernel) rfl) rfl hb_110_75 ⟨by decide, by decide, by decide⟩ (by simp [okr]) (by simp [okr]) (pc2 := 25) rfl ?_
  refine e_putRF fl_X6_18 dX6_init_25 ⟨by decide, by decide, rfl⟩ fn_6_10 rfl rc_6 frc_6_10 (by decide) (h2 := H_111) rfl (pc2 := 28) rfl ?_
  refine e_aload_n dX6_init_28 0 rfl rfl (pc2 := 29) rfl ?_
  refine e_bipush (x := 6) dX6_init_29 (by decide) (pc2 := 31) rfl ?_
  refine e_newI (m0 := 6) dX6_init_31 (by decide) (by decide) (by decide) (TG_t1 58 (by decide +kernel) rfl) rfl hb_111_76 ⟨by decide, by decide, by decide⟩ (by simp [okr]) (by simp [okr]) (pc2 := 33) rfl ?_
  refine e_putRF fl_X6_21 dX6_init_33 ⟨by decide, by decide, rfl⟩ fn_6_11 rfl rc_6 frc_6_11 (by decide) (h2 := H_112) rfl (pc2 := 36) rfl ?_
  refine e_aload_n dX6_init_36 0 rfl rfl (pc2 := 37) rfl ?_
  refine e_bipush (x := 6) dX6_init_37 (by decide) (pc2 := 39) rfl ?_
  refine e_newI (m0 := 6) dX6_init_39 (by decide) (by decide) (by decide) (TG_t1 58 (by decide +kernel) rfl) rfl hb_112_77 ⟨by decide, by decide, by decide⟩ (by simp [okr]) (by simp [okr]) (pc2 := 41) rfl ?_
  refine e_putRF fl_X6_24 dX6_init_41 ⟨by decide, by decide, rfl⟩ fn_6_12 rfl rc_6 frc_6_12 (by decide) (h2 := H_113) rfl (pc2 := 44) rfl ?_
  refine e_aload_n dX6_init_44 0 rfl rfl (pc2 := 45) rfl ?_
  refine e_bipush (x := 6) dX6_init_45 (by decide) (pc2 := 47) rfl ?_
  refine e_newI (m0 := 6) dX6_init_47 (by decide) (by decide) (by decide) (TG_t1 58 (by decide +kernel) rfl) rfl hb_113_78 ⟨by decide, by decide, by decide⟩ (by simp [okr]) (by simp [okr]) (pc2 := 49) rfl ?_
  refine e_putRF fl_X6_27 dX6_init_49 ⟨by decide, by decide, rfl⟩ fn_6_13 rfl rc_6 frc_6_13 (by decide) (h2 := H_114) rfl (pc2 := 52) rfl ?_
  refine e_aload_n dX6_init_52 0 rfl rfl (pc2 := 53) rfl ?_
  refine e_iconst (x := 2) dX6_init_53 (by decide) (pc2 := 54) rfl ?_
  refine e_newI (m0 := 2) dX6_init_54 (by decide) (by decide) (by decide) (TG_t1 58 (by decide +kernel) rfl) rfl hb_114_79 ⟨by decide, by decide, by decide⟩ (by simp [okr]) (by simp [okr]) (pc2 := 56) rfl ?_
  refine e_putRF fl_X6_30 dX6_init_56 ⟨by decide, by decide, rfl⟩ fn_6_14 rfl rc_6 frc_6_14 (by decide) (h2 := H_115) rfl (pc2 := 59) rfl ?_
  refine e_aload_n dX6_init_59 0 rfl rfl (pc2 := 60) rfl ?_
  refine e_aload_n dX6_init_60 1 rfl rfl (pc2 := 61) rfl ?_
  refine e_putR fl_X6_33 dX6_init_61 ⟨by decide, by decide, rfl⟩ fn_6_0 fr_6_0 (by decide) (h2 := H_116) rfl (pc2 := 64) rfl ?_
  refine e_aload_n dX6_init_64 0 rfl rfl (pc2 := 65) rfl ?_
  refine e_aload_n dX6_init_65 2 rfl rfl (pc2 := 66) rfl ?_
  refine e_putR fl_X6_37 dX6_init_66 ⟨by decide, by decide, rfl⟩ fn_6_1 fr_6_1 (by decide) (h2 := H_117) rfl (pc2 := 69) rfl ?_
  exact e_vret rfl dX6_init_69
set_option maxRecDepth 20000 in
set_option maxHeartbeats 4000000 in
theorem c38_X7_init : Mt 2 (yX7_init, cX7_init, 1, none) [.ref 81] 81 H_118 none 85 H_122 := by
  refine Mt.of (by decide +kernel) (by decide) (Nat.le_of_ble_eq_true rfl) ?_
  show Ev 2 (yX7_init, cX7_init, 1, none) 81 none 85 H_122 0 81 [(0, .ref 81)] [] H_118
  refine e_aload_n dX7_init_0 0 rfl rfl (pc2 := 1) rfl ?_
  refine e_obji dX7_init_1 (TG_t2 1 (by decide +kernel) rfl) tgo_1 tgo_2 (by decide) (Nat.le_of_ble_eq_true rfl) (pc2 := 4) rfl ?_
  refine e_aload_n dX7_init_4 0 rfl rfl (pc2 := 5) rfl ?_
  refine e_iconst (x := 5) dX7_init_5 (by decide) (pc2 := 6) rfl ?_
  refine e_newI (m0 := 5) dX7_init_6 (by decide) (by decide) (by decide) (TG_t1 58 (by decide +kernel) rfl) rfl hb_118_81 ⟨by decide, by decide, by decide⟩ (by simp [okr]) (by simp [okr]) (pc2 := 8) rfl ?_
  refine e_putRF fl_X7_9 dX7_init_8 ⟨by decide, by decide, rfl⟩ fn_7_4 rfl rc_7 frc_7_4 (by decide) (h2 := H_119) rfl (pc2 := 11) rfl ?_
  refine e_aload_n dX7_init_11 0 rfl rfl (pc2 := 12) rfl ?_
  refine e_bipush (x := 120) dX7_init_12 (by decide) (pc2 := 14) rfl ?_
  refine e_newI (m0 := 120) dX7_init_14 (by decide) (by decide) (by decide) (TG_t1 58 (by decide +kernel) rfl) rfl hb_119_82 ⟨by decide, by decide, by decide⟩ (by simp [okr]) (by simp [okr]) (pc2 := 16) rfl ?_
  refine e_putRF fl_X7_15 dX7_init_16 ⟨by decide, by decide, rfl⟩ fn_7_5 rfl rc_7 frc_7_5 (by decide) (h2 := H_120) rfl (pc2 := 19) rfl ?_
  refine e_aload_n dX7_init_19 0 rfl rfl (pc2 := 20) rfl ?_
  refine e_bipush (x := 20) dX7_init_20 (by decide) (pc2 := 22) rfl ?_
  refine e_newI (m0 := 20) dX7_init_22 (by decide) (by decide) (by decide) (TG_t1 58 (by decide +kernel) rfl) rfl hb_120_83 ⟨by decide, by decide, by decide⟩ (by simp [okr]) (by simp [okr]) (pc2 := 24) rfl ?_
  refine e_putRF fl_X7_18 dX7_init_24 ⟨by decide, by decide, rfl⟩ fn_7_7 rfl rc_7 frc_7_7 (by decide) (h2 := H_121) rfl (pc2 := 27) rfl ?_
  refine e_aload_n dX7_init_27 0 rfl rfl (pc2 := 28) rfl ?_
  refine e_bipush (x := 12) dX7_init_28 (by decide) (pc2 := 30) rfl ?_
  refine e_newI (m0 := 12) dX7_init_30 (by decide) (by decide) (by decide) (TG_t1 58 (by decide +kernel) rfl) rfl hb_121_84 ⟨by decide, by decide, by decide⟩ (by simp [okr]) (by simp [okr]) (pc2 := 32) rfl ?_
  refine e_putRF fl_X7_21 dX7_init_32 ⟨by decide, by decide, rfl⟩ fn_7_9 rfl rc_7 frc_7_9 (by decide) (h2 := H_122) rfl (pc2 := 35) rfl ?_
  exact e_vret rfl dX7_init_35
set_option maxRecDepth 20000 in
set_option maxHeartbeats 4000000 in
theorem c39_X7_init : Mt 2 (yX7_init, cX7_init, 1, none) [.ref 86] 86 H_123 none 90 H_127 := by
  refine Mt.of (by decide +kernel) (by decide) (Nat.le_of_ble_eq_true rfl) ?_
  show Ev 2 (yX7_init, cX7_init, 1, none) 86 none 90 H_127 0 86 [(0, .ref 86)] [] H_123
  refine e_aload_n dX7_init_0 0 rfl rfl (pc2 := 1) rfl ?_
  refine e_obji dX7_init_1 (TG_t2 1 (by decide +kernel) rfl) tgo_1 tgo_2 (by decide) (Nat.le_of_ble_eq_true rfl) (pc2 := 4) rfl ?_
  refine e_aload_n dX7_init_4 0 rfl rfl (pc2 := 5) rfl ?_
  refine e_iconst (x := 5) dX7_init_5 (by decide) (pc2 := 6) rfl ?_
  refine e_newI (m0 := 5) dX7_init_6 (by decide) (by decide) (by decide) (TG_t1 58 (by decide +kernel) rfl) rfl hb_123_86 ⟨by decide, by decide, by decide⟩ (by simp [okr]) (by simp [okr]) (pc2 := 8) rfl ?_
  refine e_putRF fl_X7_9 dX7_init_8 ⟨by decide, by decide, rfl⟩ fn_7_4 rfl rc_7 frc_7_4 (by decide) (h2 := H_124) rfl (pc2 := 11) rfl ?_
  refine e_aload_n dX7_init_11 0 rfl rfl (pc2 := 12) rfl ?_
  refine e_bipush (x := 120) dX7_init_12 (by decide) (pc2 := 14) rfl ?_
  refine e_newI (m0 := 120) dX7_init_14 (by decide) (by decide) (by decide) (TG_t1 58 (by decide +kernel) rfl) rfl hb_124_87 ⟨by decide, by decide, by decide⟩ (by simp [okr]) (by simp [okr]) (pc2 := 16) rfl ?_
  refine e_putRF fl_X7_15 dX7_init_16 ⟨by decide, by decide, rfl⟩ fn_7_5 rfl rc_7 frc_7_5 (by decide) (h2 := H_125) rfl (pc2 := 19) rfl ?_
  refine e_aload_n dX7_init_19 0 rfl rfl (pc2 := 20) rfl ?_
  refine e_bipush (x := 20) dX7_init_20 (by decide) (pc2 := 22) rfl ?_
  refine e_newI (m0 := 20) dX7_init_22 (by decide) (by decide) (by decide) (TG_t1 58 (by decide +kernel) rfl) rfl hb_125_88 ⟨by decide, by decide, by decide⟩ (by simp [okr]) (by simp [okr]) (pc2 := 24) rfl ?_
  refine e_putRF fl_X7_18 dX7_init_24 ⟨by decide, by decide, rfl⟩ fn_7_7 rfl rc_7 frc_7_7 (by decide) (h2 := H_126) rfl (pc2 := 27) rfl ?_
  refine e_aload_n dX7_init_27 0 rfl rfl (pc2 := 28) rfl ?_
  refine e_bipush (x := 12) dX7_init_28 (by decide) (pc2 := 30) rfl ?_
  refine e_newI (m0 := 12) dX7_init_30 (by decide) (by decide) (by decide) (TG_t1 58 (by decide +kernel) rfl) rfl hb_126_89 ⟨by decide, by decide, by decide⟩ (by simp [okr]) (by simp [okr]) (pc2 := 32) rfl ?_
  refine e_putRF fl_X7_21 dX7_init_32 ⟨by decide, by decide, rfl⟩ fn_7_9 rfl rc_7 frc_7_9 (by decide) (h2 := H_127) rfl (pc2 := 35) rfl ?_
  exact e_vret rfl dX7_init_35
set_option maxRecDepth 20000 in
set_option maxHeartbeats 4000000 in
theorem c40_X7_init : Mt 2 (yX7_init, cX7_init, 1, none) [.ref 91] 91 H_128 none 95 H_132 := by
  refine Mt.of (by decide +kernel) (by decide) (Nat.le_of_ble_eq_true rfl) ?_
  show Ev 2 (yX7_init, cX7_init, 1, none) 91 none 95 H_132 0 91 [(0, .ref 91)] [] H_128
  refine e_aload_n dX7_init_0 0 rfl rfl (pc2 := 1) rfl ?_
  refine e_obji dX7_init_1 (TG_t2 1 (by decide +kernel) rfl) tgo_1 tgo_2 (by decide) (Nat.le_of_ble_eq_true rfl) (pc2 := 4) rfl ?_
  refine e_aload_n dX7_init_4 0 rfl rfl (pc2 := 5) rfl ?_
  refine e_iconst (x := 5) dX7_init_5 (by decide) (pc2 := 6) rfl ?_
  refine e_newI (m0 := 5) dX7_init_6 (by decide) (by decide) (by decide) (TG_t1 58 (by decide +kernel) rfl) rfl hb_128_91 ⟨by decide, by decide, by decide⟩ (by simp [okr]) (by simp [okr]) (pc2 := 8) rfl ?_
  refine e_putRF fl_X7_9 dX7_init_8 ⟨by decide, by decide, rfl⟩ fn_7_4 rfl rc_7 frc_7_4 (by decide) (h2 := H_129) rfl (pc2 := 11) rfl ?_
  refine e_aload_n dX7_init_11 0 rfl rfl (pc2 := 12) rfl ?_
  refine e_bipush (x := 120) dX7_init_12 (by decide) (pc2 := 14) rfl ?_
  refine e_newI (m0 := 120) dX7_init_14 (by decide) (by decide) (by decide) (TG_t1 58 (by decide +kernel) rfl) rfl hb_129_92 ⟨by decide, by decide, by decide⟩ (by simp [okr]) (by simp [okr]) (pc2 := 16) rfl ?_
  refine e_putRF fl_X7_15 dX7_init_16 ⟨by decide, by decide, rfl⟩ fn_7_5 rfl rc_7 frc_7_5 (by decide) (h2 := H_130) rfl (pc2 := 19) rfl ?_
  refine e_aload_n dX7_init_19 0 rfl rfl (pc2 := 20) rfl ?_
  refine e_bipush (x := 20) dX7_init_20 (by decide) (pc2 := 22) rfl ?_
  refine e_newI (m0 := 20) dX7_init_22 (by decide) (by decide) (by decide) (TG_t1 58 (by decide +kernel) rfl) rfl hb_130_93 ⟨by decide, by decide, by decide⟩ (by simp [okr]) (by simp [okr]) (pc2 := 24) rfl ?_
  refine e_putRF fl_X7_18 dX7_init_24 ⟨by decide, by decide, rfl⟩ fn_7_7 rfl rc_7 frc_7_7 (by decide) (h2 := H_131) rfl (pc2 := 27) rfl ?_
  refine e_aload_n dX7_init_27 0 rfl rfl (pc2 := 28) rfl ?_
  refine e_bipush (x := 12) dX7_init_28 (by decide) (pc2 := 30) rfl ?_
  refine e_newI (m0 := 12) dX7_init_30 (by decide) (by decide) (by decide) (TG_t1 58 (by decide +kernel) rfl) rfl hb_131_94 ⟨by decide, by decide, by decide⟩ (by simp [okr]) (by simp [okr]) (pc2 := 32) rfl ?_
  refine e_putRF fl_X7_21 dX7_init_32 ⟨by decide, by decide, rfl⟩ fn_7_9 rfl rc_7 frc_7_9 (by decide) (h2 := H_132) rfl (pc2 := 35) rfl ?_
  exact e_vret rfl dX7_init_35
set_option maxRecDepth 20000 in
set_option maxHeartbeats 4000000 in
theorem c41_X7_init : Mt 2 (yX7_init, cX7_init, 1, none) [.ref 96] 96 H_133 none 100 H_137 := by
  refine Mt.of (by decide +kernel) (by decide) (Nat.le_of_ble_eq_true rfl) ?_
  show Ev 2 (yX7_init, cX7_init, 1, none) 96 none 100 H_137 0 96 [(0, .ref 96)] [] H_133
  refine e_aload_n dX7_init_0 0 rfl rfl (pc2 := 1) rfl ?_
  refine e_obji dX7_init_1 (TG_t2 1 (by decide +kernel) rfl) tgo_1 tgo_2 (by decide) (Nat.le_of_ble_eq_true rfl) (pc2 := 4) rfl ?_
  refine e_aload_n dX7_init_4 0 rfl rfl (pc2 := 5) rfl ?_
  refine e_iconst (x := 5) dX7_init_5 (by decide) (pc2 := 6) rfl ?_
  refine e_newI (m0 := 5) dX7_init_6 (by decide) (by decide) (by decide) (TG_t1 58 (by decide +kernel) rfl) rfl hb_133_96 ⟨by decide, by decide, by decide⟩ (by simp [okr]) (by simp [okr]) (pc2 := 8) rfl ?_
  refine e_putRF fl_X7_9 dX7_init_8 ⟨by decide, by decide, rfl⟩ fn_7_4 rfl rc_7 frc_7_4 (by decide) (h2 := H_134) rfl (pc2 := 11) rfl ?_
  refine e_aload_n dX7_init_11 0 rfl rfl (pc2 := 12) rfl ?_
  refine e_bipush (x := 120) dX7_init_12 (by decide) (pc2 := 14) rfl ?_
  refine e_newI (m0 := 120) dX7_init_14 (by decide) (by decide) (by decide) (TG_t1 58 (by decide +kernel) rfl) rfl hb_134_97 ⟨by decide, by decide, by decide⟩ (by simp [okr]) (by simp [okr]) (pc2 := 16) rfl ?_
  refine e_putRF fl_X7_15 dX7_init_16 ⟨by decide, by decide, rfl⟩ fn_7_5 rfl rc_7 frc_7_5 (by decide) (h2 := H_135) rfl (pc2 := 19) rfl ?_
  refine e_aload_n dX7_init_19 0 rfl rfl (pc2 := 20) rfl ?_
  refine e_bipush (x := 20) dX7_init_20 (by decide) (pc2 := 22) rfl ?_
  refine e_newI (m0 := 20) dX7_init_22 (by decide) (by decide) (by decide) (TG_t1 58 (by decide +kernel) rfl) rfl hb_135_98 ⟨by decide, by decide, by decide⟩ (by simp [okr]) (by simp [okr]) (pc2 := 24) rfl ?_
  refine e_putRF fl_X7_18 dX7_init_24 ⟨by decide, by decide, rfl⟩ fn_7_7 rfl rc_7 frc_7_7 (by decide) (h2 := H_136) rfl (pc2 := 27) rfl ?_
  refine e_aload_n dX7_init_27 0 rfl rfl (pc2 := 28) rfl ?_
  refine e_bipush (x := 12) dX7_init_28 (by decide) (pc2 := 30) rfl ?_
  refine e_newI (m0 := 12) dX7_init_30 (by decide) (by decide) (by decide) (TG_t1 58 (by decide +kernel) rfl) rfl hb_136_99 ⟨by decide, by decide, by decide⟩ (by simp [okr]) (by simp [okr]) (pc2 := 32) rfl ?_
  refine e_putRF fl_X7_21 dX7_init_32 ⟨by decide, by decide, rfl⟩ fn_7_9 rfl rc_7 frc_7_9 (by decide) (h2 := H_137) rfl (pc2 := 35) rfl ?_
  exact e_vret rfl dX7_init_35
set_option maxRecDepth 20000 in
set_option maxHeartbeats 4000000 in
theorem c1_X11_init : Mt 4 (yX11_init, cX11_init, 5, none) [.ref 1] 1 H_0 none 100 H_138 := by
  refine Mt.of (by decide +kernel) (by decide) (Nat.le_of_ble_eq_true rfl) ?_
  show Ev 4 (yX11_init, cX11_init, 5, none) 1 none 100 H_138 0 1 [(0, .ref 1)] [] H_0
  refine e_aload_n dX11_init_0 0 rfl rfl (pc2 := 1) rfl ?_
  refine e_obji dX11_init_1 (TG_t1 32 (by decide +kernel) rfl) tgo_1 tgo_2 (by decide) (Nat.le_of_ble_eq_true rfl) (pc2 := 4) rfl ?_
  refine e_aload_n dX11_init_4 0 rfl rfl (pc2 := 5) rfl ?_
  refine e_new dX11_init_5 fd_4 (TG_t1 35 (by decide +kernel) rfl) (TG_t1 36 (by decide +kernel) rfl) (TG_t1 2 (by decide +kernel) rfl) rfl hb_0_1 ⟨by decide, by decide, by decide⟩ (by simp [okr]) (by simp [okr]) (pc2 := 8) rfl ?_
  refine e_dup dX11_init_8 rfl (pc2 := 9) rfl ?_
  refine e_callI c2_X4_init dX11_init_9 ci_X11_9 rfl (by decide) (Nat.le_of_ble_eq_true rfl) ⟨by decide, by decide, by decide⟩ (by simp [okr2]) (by simp [okr2]) rfl (pc2 := 12) rfl ?_
  refine e_putR fl_X11_10 dX11_init_12 ⟨by decide, by decide, rfl⟩ fn_10_4 fr_10_4 (by decide) (h2 := H_41) rfl (pc2 := 15) rfl ?_
  refine e_aload_n dX11_init_15 0 rfl rfl (pc2 := 16) rfl ?_
  refine e_new dX11_init_16 fd_7 (TG_t1 236 (by decide +kernel) rfl) (TG_t1 237 (by decide +kernel) rfl) (TG_t1 6 (by decide +kernel) rfl) rfl hb_41_27 ⟨by decide, by decide, by decide⟩ (by simp [okr]) (by simp [okr]) (pc2 := 19) rfl ?_
  refine e_dup dX11_init_19 rfl (pc2 := 20) rfl ?_
  refine e_callI c16_X7_init dX11_init_20 ci_X11_18 rfl (by decide) (Nat.le_of_ble_eq_true rfl) ⟨by decide, by decide, by decide⟩ (by simp [okr2]) (by simp [okr2]) rfl (pc2 := 23) rfl ?_
  refine e_putRF fl_X11_19 dX11_init_23 ⟨by decide, by decide, rfl⟩ fn_10_6 rfl rc_10 fr_10_6 (by decide) (h2 := H_46) rfl (pc2 := 26) rfl ?_
  refine e_aload_n dX11_init_26 0 rfl rfl (pc2 := 27) rfl ?_
  refine e_iconst (x := 4) dX11_init_27 (by decide) (pc2 := 28) rfl ?_
  refine e_newq7 (m0 := 4) dX11_init_28 (TG_t1 236 (by decide +kernel) rfl) (by decide) (by decide) (by decide) rfl hb_46_32 ⟨by decide, by decide, by decide⟩ (by simp [okr]) (by simp [okr]) (pc2 := 31) rfl ?_
  refine e_putRF fl_X11_23 dX11_init_31 ⟨by decide, by decide, rfl⟩ fn_10_7 rfl rc_10 frc_10_7 (by decide) (h2 := H_47) rfl (pc2 := 34) rfl ?_
  refine e_aload_n dX11_init_34 0 rfl rfl (pc2 := 35) rfl ?_
  refine e_bipush (x := 48) dX11_init_35 (by decide) (pc2 := 37) rfl ?_
  refine e_newI (m0 := 48) dX11_init_37 (by decide) (by decide) (by decide) (TG_t1 58 (by decide +kernel) rfl) rfl hb_47_33 ⟨by decide, by decide, by decide⟩ (by simp [okr]) (by simp [okr]) (pc2 := 39) rfl ?_
  refine e_putRF fl_X11_27 dX11_init_39 ⟨by decide, by decide, rfl⟩ fn_10_9 rfl rc_10 frc_10_9 (by decide) (h2 := H_48) rfl (pc2 := 42) rfl ?_
  refine e_aload_n dX11_init_42 0 rfl rfl (pc2 := 43) rfl ?_
  refine e_sipush (x := 384) dX11_init_43 (by decide) (pc2 := 46) rfl ?_
  refine e_newI (m0 := 384) dX11_init_46 (by decide) (by decide) (by decide) (TG_t1 58 (by decide +kernel) rfl) rfl hb_48_34 ⟨by decide, by decide, by decide⟩ (by simp [okr]) (by simp [okr]) (pc2 := 48) rfl ?_
  refine e_putRF fl_X11_31 dX11_init_48 ⟨by decide, by decide, rfl⟩ fn_10_11 rfl rc_10 frc_10_11 (by decide) (h2 := H_49) rfl (pc2 := 51) rfl ?_
  refine e_new dX11_init_51 fd_8 (TG_t2 56 (by decide +kernel) rfl) (TG_t2 57 (by decide +kernel) rfl) (TG_t1 7 (by decide +kernel) rfl) rfl hb_49_35 ⟨by decide, by decide, by decide⟩ (by simp [okr]) (by simp [okr]) (pc2 := 54) rfl ?_
  refine e_dup dX11_init_54 rfl (pc2 := 55) rfl ?_
  refine e_callI c17_X8_init dX11_init_55 ci_X11_36 rfl (by decide) (Nat.le_of_ble_eq_true rfl) ⟨by decide, by decide, by decide⟩ (by simp [okr2]) (by simp [okr2]) rfl (pc2 := 58) rfl ?_
  refine e_astore_n dX11_init_58 rfl (by decide) rfl (ls' := [(0, .ref 1), (1, .ref 36)]) [1, 0] rfl (pc2 := 59) rfl ?_
  refine e_new dX11_init_59 fd_4 (TG_t1 35 (by decide +kernel) rfl) (TG_t1 36 (by decide +kernel) rfl) (TG_t1 2 (by decide +kernel) rfl) rfl hb_50_37 ⟨by decide, by decide, by decide⟩ (by simp [okr]) (by simp [okr]) (pc2 := 62) rfl ?_
  refine e_dup dX11_init_62 rfl (pc2 := 63) rfl ?_
  refine e_callI c18_X4_init dX11_init_63 ci_X11_9 rfl (by decide) (Nat.le_of_ble_eq_true rfl) ⟨by decide, by decide, by decide⟩ (by simp [okr2]) (by simp [okr2]) rfl (pc2 := 66) rfl ?_
  refine e_astore_n dX11_init_66 rfl (by decide) rfl (ls' := [(0, .ref 1), (1, .ref 36), (2, .ref 38)]) [1, 2, 0] rfl (pc2 := 67) rfl ?_
  refine e_new dX11_init_67 fd_7 (TG_t1 236 (by decide +kernel) rfl) (TG_t1 237 (by decide +kernel) rfl) (TG_t1 6 (by decide +kernel) rfl) rfl hb_90_63 ⟨by decide, by decide, by decide⟩ (by simp [okr]) (by simp [okr]) (pc2 := 70) rfl ?_
  refine e_dup dX11_init_70 rfl (pc2 := 71) rfl ?_
  refine e_callI c32_X7_init dX11_init_71 ci_X11_18 rfl (by decide) (Nat.le_of_ble_eq_true rfl) ⟨by decide, by decide, by decide⟩ (by simp [okr2]) (by simp [okr2]) rfl (pc2 := 74) rfl ?_
  refine e_astore_n dX11_init_74 rfl (by decide) rfl (ls' := [(0, .ref 1), (1, .ref 36), (2, .ref 38), (3, .ref 64)]) [1, 2, 3, 0] rfl (pc2 := 75) rfl ?_
  refine e_aload_n dX11_init_75 3 rfl rfl (pc2 := 76) rfl ?_
  refine e_aload_n dX11_init_76 2 rfl rfl (pc2 := 77) rfl ?_
  refine e_callVn c33_X7_startWith dX11_init_77 cv_X11_37 rfl ⟨by decide, by decide, rfl⟩ rc_7 (by decide) (Nat.le_of_ble_eq_true rfl) ⟨by decide, by decide +kernel⟩ rfl (pc2 := 80) rfl ?_
  refine e_aload_n dX11_init_80 0 rfl rfl (pc2 := 81) rfl ?_
  refine e_aload_n dX11_init_81 1 rfl rfl (pc2 := 82) rfl ?_
  refine e_putRF fl_X11_41 dX11_init_82 ⟨by decide, by decide, rfl⟩ fn_10_0 rfl rc_10 fr_10_0 (by decide) (h2 := H_99) rfl (pc2 := 85) rfl ?_
  refine e_aload_n dX11_init_85 0 rfl rfl (pc2 := 86) rfl ?_
  refine e_new dX11_init_86 fd_5 (TG_t2 107 (by decide +kernel) rfl) (TG_t2 108 (by decide +kernel) rfl) (TG_t1 8 (by decide +kernel) rfl) rfl hb_99_68 ⟨by decide, by decide, by decide⟩ (by simp [okr]) (by simp [okr]) (pc2 := 89) rfl ?_
  refine e_dup dX11_init_89 rfl (pc2 := 90) rfl ?_
  refine e_aload_n dX11_init_90 1 rfl rfl (pc2 := 91) rfl ?_
  refine e_callI c34_X5_init dX11_init_91 ci_X11_47 rfl (by decide) (Nat.le_of_ble_eq_true rfl) ⟨by decide, by decide, by decide⟩ (by simp [okr2]) (by simp [okr2]) rfl (pc2 := 94) rfl ?_
  refine e_putRF fl_X11_50 dX11_init_94 ⟨by decide, by decide, rfl⟩ fn_10_1 rfl rc_10 fr_10_1 (by decide) (h2 := H_103) rfl (pc2 := 97) rfl ?_
  refine e_aload_n dX11_init_97 0 rfl rfl (pc2 := 98) rfl ?_
  refine e_new dX11_init_98 fd_1 (TG_t2 133 (by decide +kernel) rfl) (TG_t2 134 (by decide +kernel) rfl) (TG_t1 10 (by decide +kernel) rfl) rfl hb_103_70 ⟨by decide, by decide, by decide⟩ (by simp [okr]) (by simp [okr]) (pc2 := 101) rfl ?_
  refine e_dup dX11_init_101 rfl (pc2 := 102) rfl ?_
  refine e_aload_n dX11_init_102 1 rfl rfl (pc2 := 103) rfl ?_
  refine e_callI c36_X1_init dX11_init_103 ci_X11_56 rfl (by decide) (Nat.le_of_ble_eq_true rfl) ⟨by decide, by decide, by decide⟩ (by simp [okr2]) (by simp [okr2]) rfl (pc2 := 106) rfl ?_
  refine e_putRF fl_X11_57 dX11_init_106 ⟨by decide, by decide, rfl⟩ fn_10_2 rfl rc_10 fr_10_2 (by decide) (h2 := H_106) rfl (pc2 := 109) rfl ?_
  refine e_aload_n dX11_init_109 0 rfl rfl (pc2 := 110) rfl ?_
  refine e_aload_n dX11_init_110 2 rfl rfl (pc2 := 111) rfl ?_
  refine e_putR fl_X11_61 dX11_init_111 ⟨by decide, by decide, rfl⟩ fn_10_3 fr_10_3 (by decide) (h2 := H_107) rfl (pc2 := 114) rfl ?_
  refine e_aload_n dX11_init_114 0 rfl rfl (pc2 := 115) rfl ?_
  refine e_aload_n dX11_init_115 3 rfl rfl (pc2 := 116) rfl ?_
  refine e_putRF fl_X11_64 dX11_init_116 ⟨by decide, by decide, rfl⟩ fn_10_5 rfl rc_10 fr_10_5 (by decide) (h2 := H_108) rfl (pc2 := 119) rfl ?_
  refine e_aload_n dX11_init_119 0 rfl rfl (pc2 := 120) rfl ?_
  refine e_new dX11_init_120 fd_6 (TG_t2 151 (by decide +kernel) rfl) (TG_t2 152 (by decide +kernel) rfl) (TG_t1 11 (by decide +kernel) rfl) rfl hb_108_72 ⟨by decide, by decide, by decide⟩ (by simp [okr]) (by simp [okr]) (pc2 := 123) rfl ?_
  refine e_dup dX11_init_123 rfl (pc2 := 124) rfl ?_
  refine e_aload_n dX11_init_124 2 rfl rfl (pc2 := 125) rfl ?_
  refine e_aload_n dX11_init_125 3 rfl rfl (pc2 := 126) rfl ?_
  refine e_callI c37_X6_init dX11_init_126 ci_X11_69 rfl (by decide) (Nat.le_of_ble_eq_true rfl) ⟨by decide, by decide, by decide⟩ (by simp [okr2]) (by simp [okr2]) rfl (pc2 := 129) rfl ?_
  refine e_putRF fl_X11_72 dX11_init_129 ⟨by decide, by decide, rfl⟩ fn_10_8 rfl rc_10 fr_10_8 (by decide) (h2 := H_118) rfl (pc2 := 132) rfl ?_
  refine e_iconst (x := 0) dX11_init_132 (by decide) (pc2 := 133) rfl ?_
  refine e_istore dX11_init_133 (by decide) rfl (ls' := [(0, .ref 1), (1, .ref 36), (2, .ref 38), (3, .ref 64), (4, .int 0)]) [1, 2, 3, 4, 0] rfl (pc2 := 135) rfl ?_
  refine e_iload dX11_init_135 4 rfl (pc2 := 137) rfl ?_
  refine e_aload_n dX11_init_137 0 rfl rfl (pc2 := 138) rfl ?_
  refine e_getR (r := 33) fl_X11_23 dX11_init_138 ⟨by decide, by decide, rfl⟩ (by decide +kernel) (by decide) (pc2 := 141) rfl ?_
  refine e_alen (x := 4) dX11_init_141 ⟨by decide, by decide, rfl⟩ (by decide) (by decide) (pc2 := 142) rfl ?_
  refine e_icmp_ge (tgt := 165) dX11_init_142 (by decide) (pc2 := 145) rfl (fun c => absurd c (by decide)) (fun _ => ?_)
  refine e_aload_n dX11_init_145 0 rfl rfl (pc2 := 146) rfl ?_
  refine e_getR (r := 33) fl_X11_23 dX11_init_146 ⟨by decide, by decide, rfl⟩ (by decide +kernel) (by decide) (pc2 := 149) rfl ?_
  refine e_iload dX11_init_149 4 rfl (pc2 := 151) rfl ?_
  refine e_new dX11_init_151 fd_7 (TG_t1 236 (by decide +kernel) rfl) (TG_t1 237 (by decide +kernel) rfl) (TG_t1 6 (by decide +kernel) rfl) rfl hb_118_80 ⟨by decide, by decide, by decide⟩ (by simp [okr]) (by simp [okr]) (pc2 := 154) rfl ?_
  refine e_dup dX11_init_154 rfl (pc2 := 155) rfl ?_
  refine e_callI c38_X7_init dX11_init_155 ci_X11_18 rfl (by decide) (Nat.le_of_ble_eq_true rfl) ⟨by decide, by decide, by decide⟩ (by simp [okr2]) (by simp [okr2]) rfl (pc2 := 158) rfl ?_
  refine e_aast (ci := 7) dX11_init_158 ⟨by decide, by decide, rfl⟩ (by decide) ⟨by decide, by decide, rfl⟩ (inb_v (by decide)) (h2 := H_123) rfl (pc2 := 159) rfl ?_
  refine e_iinc dX11_init_159 4 rfl (c9 := 1) (by decide) (y := 1) (by decide) (by decide) (ls' := [(0, .ref 1), (1, .ref 36), (2, .ref 38), (3, .ref 64), (4, .int 1)]) [1, 2, 3, 4, 0] rfl (pc2 := 162) rfl ?_
  refine e_goto (tgt := 135) dX11_init_162 (by decide) ?_
  refine e_iload dX11_init_135 4 rfl (pc2 := 137) rfl ?_
  refine e_aload_n dX11_init_137 0 rfl rfl (pc2 := 138) rfl ?_
  refine e_getR (r := 33) fl_X11_23 dX11_init_138 ⟨by decide, by decide, rfl⟩ (by decide +kernel) (by decide) (pc2 := 141) rfl ?_
  refine e_alen (x := 4) dX11_init_141 ⟨by decide, by decide, rfl⟩ (by decide) (by decide) (pc2 := 142) rfl ?_
  refine e_icmp_ge (tgt := 165) dX11_init_142 (by decide) (pc2 := 145) rfl (fun c => absurd c (by decide)) (fun _ => ?_)
  refine e_aload_n dX11_init_145 0 rfl rfl (pc2 := 146) rfl ?_
  refine e_getR (r := 33) fl_X11_23 dX11_init_146 ⟨by decide, by decide, rfl⟩ (by decide +kernel) (by decide) (pc2 := 149) rfl ?_
  refine e_iload dX11_init_149 4 rfl (pc2 := 151) rfl ?_
  refine e_new dX11_init_151 fd_7 (TG_t1 236 (by decide +kernel) rfl) (TG_t1 237 (by decide +kernel) rfl) (TG_t1 6 (by decide +kernel) rfl) rfl hb_123_85 ⟨by decide, by decide, by decide⟩ (by simp [okr]) (by simp [okr]) (pc2 := 154) rfl ?_
  refine e_dup dX11_init_154 rfl (pc2 := 155) rfl ?_
  refine e_callI c39_X7_init dX11_init_155 ci_X11_18 rfl (by decide) (Nat.le_of_ble_eq_true rfl) ⟨by decide, by decide, by decide⟩ (by simp [okr2]) (by simp [okr2]) rfl (pc2 := 158) rfl ?_
  refine e_aast (ci := 7) dX11_init_158 ⟨by decide, by decide, rfl⟩ (by decide) ⟨by decide, by decide, rfl⟩ (inb_v (by decide)) (h2 := H_128) rfl (pc2 := 159) rfl ?_
  refine e_iinc dX11_init_159 4 rfl (c9 := 1) (by decide) (y := 2) (by decide) (by decide) (ls' := [(0, .ref 1), (1, .ref 36), (2, .ref 38), (3, .ref 64), (4, .int 2)]) [1, 2, 3, 4, 0] rfl (pc2 := 162) rfl ?_
  refine e_goto (tgt := 135) dX11_init_162 (by decide) ?_
  refine e_iload dX11_init_135 4 rfl (pc2 := 137) rfl ?_
  refine e_aload_n dX11_init_137 0 rfl rfl (pc2 := 138) rfl ?_
  refine e_getR (r := 33) fl_X11_23 dX11_init_138 ⟨by decide, by decide, rfl⟩ (by decide +kernel) (by decide) (pc2 := 141) rfl ?_
  refine e_alen (x := 4) dX11_init_141 ⟨by decide, by decide, rfl⟩ (by decide) (by decide) (pc2 := 142) rfl ?_
  refine e_icmp_ge (tgt := 165) dX11_init_142 (by decide) (pc2 := 145) rfl (fun c => absurd c (by decide)) (fun _ => ?_)
  refine e_aload_n dX11_init_145 0 rfl rfl (pc2 := 146) rfl ?_
  refine e_getR (r := 33) fl_X11_23 dX11_init_146 ⟨by decide, by decide, rfl⟩ (by decide +kernel) (by decide) (pc2 := 149) rfl ?_
  refine e_iload dX11_init_149 4 rfl (pc2 := 151) rfl ?_
  refine e_new dX11_init_151 fd_7 (TG_t1 236 (by decide +kernel) rfl) (TG_t1 237 (by decide +kernel) rfl) (TG_t1 6 (by decide +kernel) rfl) rfl hb_128_90 ⟨by decide, by decide, by decide⟩ (by simp [okr]) (by simp [okr]) (pc2 := 154) rfl ?_
  refine e_dup dX11_init_154 rfl (pc2 := 155) rfl ?_
  refine e_callI c40_X7_init dX11_init_155 ci_X11_18 rfl (by decide) (Nat.le_of_ble_eq_true rfl) ⟨by decide, by decide, by decide⟩ (by simp [okr2]) (by simp [okr2]) rfl (pc2 := 158) rfl ?_
  refine e_aast (ci := 7) dX11_init_158 ⟨by decide, by decide, rfl⟩ (by decide) ⟨by decide, by decide, rfl⟩ (inb_v (by decide)) (h2 := H_133) rfl (pc2 := 159) rfl ?_
  refine e_iinc dX11_init_159 4 rfl (c9 := 1) (by decide) (y := 3) (by decide) (by decide) (ls' := [(0, .ref 1), (1, .ref 36), (2, .ref 38), (3, .ref 64), (4, .int 3)]) [1, 2, 3, 4, 0] rfl (pc2 := 162) rfl ?_
  refine e_goto (tgt := 135) dX11_init_162 (by decide) ?_
  refine e_iload dX11_init_135 4 rfl (pc2 := 137) rfl ?_
  refine e_aload_n dX11_init_137 0 rfl rfl (pc2 := 138) rfl ?_
  refine e_getR (r := 33) fl_X11_23 dX11_init_138 ⟨by decide, by decide, rfl⟩ (by decide +kernel) (by decide) (pc2 := 141) rfl ?_
  refine e_alen (x := 4) dX11_init_141 ⟨by decide, by decide, rfl⟩ (by decide) (by decide) (pc2 := 142) rfl ?_
  refine e_icmp_ge (tgt := 165) dX11_init_142 (by decide) (pc2 := 145) rfl (fun c => absurd c (by decide)) (fun _ => ?_)
  refine e_aload_n dX11_init_145 0 rfl rfl (pc2 := 146) rfl ?_
  refine e_getR (r := 33) fl_X11_23 dX11_init_146 ⟨by decide, by decide, rfl⟩ (by decide +kernel) (by decide) (pc2 := 149) rfl ?_
  refine e_iload dX11_init_149 4 rfl (pc2 := 151) rfl ?_
  refine e_new dX11_init_151 fd_7 (TG_t1 236 (by decide +kernel) rfl) (TG_t1 237 (by decide +kernel) rfl) (TG_t1 6 (by decide +kernel) rfl) rfl hb_133_95 ⟨by decide, by decide, by decide⟩ (by simp [okr]) (by simp [okr]) (pc2 := 154) rfl ?_
  refine e_dup dX11_init_154 rfl (pc2 := 155) rfl ?_
  refine e_callI c41_X7_init dX11_init_155 ci_X11_18 rfl (by decide) (Nat.le_of_ble_eq_true rfl) ⟨by decide, by decide, by decide⟩ (by simp [okr2]) (by simp [okr2]) rfl (pc2 := 158) rfl ?_
  refine e_aast (ci := 7) dX11_init_158 ⟨by decide, by decide, rfl⟩ (by decide) ⟨by decide, by decide, rfl⟩ (inb_v (by decide)) (h2 := H_138) rfl (pc2 := 159) rfl ?_
  refine e_iinc dX11_init_159 4 rfl (c9 := 1) (by decide) (y := 4) (by decide) (by decide) (ls' := [(0, .ref 1), (1, .ref 36), (2, .ref 38), (3, .ref 64), (4, .int 4)]) [1, 2, 3, 4, 0] rfl (pc2 := 162) rfl ?_
  refine e_goto (tgt := 135) dX11_init_162 (by decide) ?_
  refine e_iload dX11_init_135 4 rfl (pc2 := 137) rfl ?_
  refine e_aload_n dX11_init_137 0 rfl rfl (pc2 := 138) rfl ?_
  refine e_getR (r := 33) fl_X11_23 dX11_init_138 ⟨by decide, by decide, rfl⟩ (by decide +kernel) (by decide) (pc2 := 141) rfl ?_
  refine e_alen (x := 4) dX11_init_141 ⟨by decide, by decide, rfl⟩ (by decide) (by decide) (pc2 := 142) rfl ?_
  refine e_icmp_ge (tgt := 165) dX11_init_142 (by decide) (pc2 := 145) rfl (fun _ => ?_) (fun c => absurd (by decide) c)
  exact e_vret rfl dX11_init_165
set_option maxRecDepth 20000 in
set_option maxHeartbeats 4000000 in
theorem c43_X12_plain : Mt 1 (yX12_plain, cX12_plain, 3, none) [.ref 101, .int 0] 157 H_196 none 157 H_219 := by
  refine Mt.of (by decide +kernel) (by decide) (Nat.le_of_ble_eq_true rfl) ?_
  show Ev 1 (yX12_plain, cX12_plain, 3, none) 157 none 157 H_219 0 157 [(0, .ref 101), (1, .int 0)] [] H_196
  refine e_iconst (x := 0) dX12_plain_0 (by decide) (pc2 := 1) rfl ?_
  refine e_istore_n dX12_plain_1 rfl (by decide) rfl (ls' := [(0, .ref 101), (1, .int 0), (2, .int 0)]) [1, 2, 0] rfl (pc2 := 2) rfl ?_
  refine e_iload_n dX12_plain_2 2 rfl rfl (pc2 := 3) rfl ?_
  refine e_bipush (x := 10) dX12_plain_3 (by decide) (pc2 := 5) rfl ?_
  refine e_icmp_ge (tgt := 26) dX12_plain_5 (by decide) (pc2 := 8) rfl (fun c => absurd c (by decide)) (fun _ => ?_)
  refine e_aload_n dX12_plain_8 0 rfl rfl (pc2 := 9) rfl ?_
  refine e_getR (r := 103) fl_X12_13 dX12_plain_9 ⟨by decide, by decide, rfl⟩ (by decide +kernel) (by decide) (pc2 := 12) rfl ?_
  refine e_bipush (x := 10) dX12_plain_12 (by decide) (pc2 := 14) rfl ?_
  refine e_iload_n dX12_plain_14 1 rfl rfl (pc2 := 15) rfl ?_
  refine e_imul dX12_plain_15 (pc2 := 16) rfl ?_
  refine ev_topI (y := 0) (by decide) ?_
  refine e_iload_n dX12_plain_16 2 rfl rfl (pc2 := 17) rfl ?_
  refine e_iadd dX12_plain_17 (pc2 := 18) rfl ?_
  refine ev_topI (y := 0) (by decide) ?_
  refine e_iconst (x := 0) dX12_plain_18 (by decide) (pc2 := 19) rfl ?_
  refine e_iast dX12_plain_19 ⟨by decide, by decide, rfl⟩ (inb_v (by decide)) (h2 := H_197) rfl (pc2 := 20) rfl ?_
  refine e_iinc dX12_plain_20 2 rfl (c9 := 1) (by decide) (y := 1) (by decide) (by decide) (ls' := [(0, .ref 101), (1, .int 0), (2, .int 1)]) [1, 2, 0] rfl (pc2 := 23) rfl ?_
  refine e_goto (tgt := 2) dX12_plain_23 (by decide) ?_
  refine e_iload_n dX12_plain_2 2 rfl rfl (pc2 := 3) rfl ?_
  refine e_bipush (x := 10) dX12_plain_3 (by decide) (pc2 := 5) rfl ?_
  refine e_icmp_ge (tgt := 26) dX12_plain_5 (by decide) (pc2 := 8) rfl (fun c => absurd c (by decide)) (fun _ => ?_)
  refine e_aload_n dX12_plain_8 0 rfl rfl (pc2 := 9) rfl ?_
  refine e_getR (r := 103) fl_X12_13 dX12_plain_9 ⟨by decide, by decide, rfl⟩ (by decide +kernel) (by decide) (pc2 := 12) rfl ?_
  refine e_bipush (x := 10) dX12_plain_12 (by decide) (pc2 := 14) rfl ?_
  refine e_iload_n dX12_plain_14 1 rfl rfl (pc2 := 15) rfl ?_
  refine e_imul dX12_plain_15 (pc2 := 16) rfl ?_
  refine ev_topI (y := 0) (by decide) ?_
  refine e_iload_n dX12_plain_16 2 rfl rfl (pc2 := 17) rfl ?_
  refine e_iadd dX12_plain_17 (pc2 := 18) rfl ?_
  refine ev_topI (y := 1) (by decide) ?_
  refine e_iconst (x := 0) dX12_plain_18 (by decide) (pc2 := 19) rfl ?_
  refine e_iast dX12_plain_19 ⟨by decide, by decide, rfl⟩ (inb_v (by decide)) (h2 := H_198) rfl (pc2 := 20) rfl ?_
  refine e_iinc dX12_plain_20 2 rfl (c9 := 1) (by decide) (y := 2) (by decide) (by decide) (ls' := [(0, .ref 101), (1, .int 0), (2, .int 2)]) [1, 2, 0] rfl (pc2 := 23) rfl ?_
  refine e_goto (tgt := 2) dX12_plain_23 (by decide) ?_
  refine e_iload_n dX12_plain_2 2 rfl rfl (pc2 := 3) rfl ?_
  refine e_bipush (x := 10) dX12_plain_3 (by decide) (pc2 := 5) rfl ?_
  refine e_icmp_ge (tgt := 26) dX12_plain_5 (by decide) (pc2 := 8) rfl (fun c => absurd c (by decide)) (fun _ => ?_)
  refine e_aload_n dX12_plain_8 0 rfl rfl (pc2 := 9) rfl ?_
  refine e_getR (r := 103) fl_X12_13 dX12_plain_9 ⟨by decide, by decide, rfl⟩ (by decide +kernel) (by decide) (pc2 := 12) rfl ?_
  refine e_bipush (x := 10) dX12_plain_12 (by decide) (pc2 := 14) rfl ?_
  refine e_iload_n dX12_plain_14 1 rfl rfl (pc2 := 15) rfl ?_
  refine e_imul dX12_plain_15 (pc2 := 16) rfl ?_
  refine ev_topI (y := 0) (by decide) ?_
  refine e_iload_n dX12_plain_16 2 rfl rfl (pc2 := 17) rfl ?_
  refine e_iadd dX12_plain_17 (pc2 := 18) rfl ?_
  refine ev_topI (y := 2) (by decide) ?_
  refine e_iconst (x := 0) dX12_plain_18 (by decide) (pc2 := 19) rfl ?_
  refine e_iast dX12_plain_19 ⟨by decide, by decide, rfl⟩ (inb_v (by decide)) (h2 := H_199) rfl (pc2 := 20) rfl ?_
  refine e_iinc dX12_plain_20 2 rfl (c9 := 1) (by decide) (y := 3) (by decide) (by decide) (ls' := [(0, .ref 101), (1, .int 0), (2, .int 3)]) [1, 2, 0] rfl (pc2 := 23) rfl ?_
  refine e_goto (tgt := 2) dX12_plain_23 (by decide) ?_
  refine e_iload_n dX12_plain_2 2 rfl rfl (pc2 := 3) rfl ?_
  refine e_bipush (x := 10) dX12_plain_3 (by decide) (pc2 := 5) rfl ?_
  refine e_icmp_ge (tgt := 26) dX12_plain_5 (by decide) (pc2 := 8) rfl (fun c => absurd c (by decide)) (fun _ => ?_)
  refine e_aload_n dX12_plain_8 0 rfl rfl (pc2 := 9) rfl ?_
  refine e_getR (r := 103) fl_X12_13 dX12_plain_9 ⟨by decide, by decide, rfl⟩ (by decide +kernel) (by decide) (pc2 := 12) rfl ?_
  refine e_bipush (x := 10) dX12_plain_12 (by decide) (pc2 := 14) rfl ?_
  refine e_iload_n dX12_plain_14 1 rfl rfl (pc2 := 15) rfl ?_
  refine e_imul dX12_plain_15 (pc2 := 16) rfl ?_
  refine ev_topI (y := 0) (by decide) ?_
  refine e_iload_n dX12_plain_16 2 rfl rfl (pc2 := 17) rfl ?_
  refine e_iadd dX12_plain_17 (pc2 := 18) rfl ?_
  refine ev_topI (y := 3) (by decide) ?_
  refine e_iconst (x := 0) dX12_plain_18 (by decide) (pc2 := 19) rfl ?_
  refine e_iast dX12_plain_19 ⟨by decide, by decide, rfl⟩ (inb_v (by decide)) (h2 := H_200) rfl (pc2 := 20) rfl ?_
  refine e_iinc dX12_plain_20 2 rfl (c9 := 1) (by decide) (y := 4) (by decide) (by decide) (ls' := [(0, .ref 101), (1, .int 0), (2, .int 4)]) [1, 2, 0] rfl (pc2 := 23) rfl ?_
  refine e_goto (tgt := 2) dX12_plain_23 (by decide) ?_
  refine e_iload_n dX12_plain_2 2 rfl rfl (pc2 := 3) rfl ?_
  refine e_bipush (x := 10) dX12_plain_3 (by decide) (pc2 := 5) rfl ?_
  refine e_icmp_ge (tgt := 26) dX12_plain_5 (by decide) (pc2 := 8) rfl (fun c => absurd c (by decide)) (fun _ => ?_)
  refine e_aload_n dX12_plain_8 0 rfl rfl (pc2 := 9) rfl ?_
  refine e_getR (r := 103) fl_X12_13 dX12_plain_9 ⟨by decide, by decide, rfl⟩ (by decide +kernel) (by decide) (pc2 := 12) rfl ?_
  refine e_bipush (x := 10) dX12_plain_12 (by decide) (pc2 := 14) rfl ?_
  refine e_iload_n dX12_plain_14 1 rfl rfl (pc2 := 15) rfl ?_
  refine e_imul dX12_plain_15 (pc2 := 16) rfl ?_
  refine ev_topI (y := 0) (by decide) ?_
  refine e_iload_n dX12_plain_16 2 rfl rfl (pc2 := 17) rfl ?_
  refine e_iadd dX12_plain_17 (pc2 := 18) rfl ?_
  refine ev_topI (y := 4) (by decide) ?_
  refine e_iconst (x := 0) dX12_plain_18 (by decide) (pc2 := 19) rfl ?_
  refine e_iast dX12_plain_19 ⟨by decide, by decide, rfl⟩ (inb_v (by decide)) (h2 := H_201) rfl (pc2 := 20) rfl ?_
  refine e_iinc dX12_plain_20 2 rfl (c9 := 1) (by decide) (y := 5) (by decide) (by decide) (ls' := [(0, .ref 101), (1, .int 0), (2, .int 5)]) [1, 2, 0] rfl (pc2 := 23) rfl ?_
  refine e_goto (tgt := 2) dX12_plain_23 (by decide) ?_
  refine e_iload_n dX12_plain_2 2 rfl rfl (pc2 := 3) rfl ?_
  refine e_bipush (x := 10) dX12_plain_3 (by decide) (pc2 := 5) rfl ?_
  refine e_icmp_ge (tgt := 26) dX12_plain_5 (by decide) (pc2 := 8) rfl (fun c => absurd c (by decide)) (fun _ => ?_)
  refine e_aload_n dX12_plain_8 0 rfl rfl (pc2 := 9) rfl ?_
  refine e_getR (r := 103) fl_X12_13 dX12_plain_9 ⟨by decide, by decide, rfl⟩ (by decide +kernel) (by decide) (pc2 := 12) rfl ?_
  refine e_bipush (x := 10) dX12_plain_12 (by decide) (pc2 := 14) rfl ?_
  refine e_iload_n dX12_plain_14 1 rfl rfl (pc2 := 15) rfl ?_
  refine e_imul dX12_plain_15 (pc2 := 16) rfl ?_
  refine ev_topI (y := 0) (by decide) ?_
  refine e_iload_n dX12_plain_16 2 rfl rfl (pc2 := 17) rfl ?_
  refine e_iadd dX12_plain_17 (pc2 := 18) rfl ?_
  refine ev_topI (y := 5) (by decide) ?_
  refine e_iconst (x := 0) dX12_plain_18 (by decide) (pc2 := 19) rfl ?_
  refine e_iast dX12_plain_19 ⟨by decide, by decide, rfl⟩ (inb_v (by decide)) (h2 := H_202) rfl (pc2 := 20) rfl ?_
  refine e_iinc dX12_plain_20 2 rfl (c9 := 1) (by decide) (y := 6) (by decide) (by decide) (ls' := [(0, .ref 101), (1, .int 0), (2, .int 6)]) [1, 2, 0] rfl (pc2 := 23) rfl ?_
  refine e_goto (tgt := 2) dX12_plain_23 (by decide) ?_
  refine e_iload_n dX12_plain_2 2 rfl rfl (pc2 := 3) rfl ?_
  refine e_bipush (x := 10) dX12_plain_3 (by decide) (pc2 := 5) rfl ?_
  refine e_icmp_ge (tgt := 26) dX12_plain_5 (by decide) (pc2 := 8) rfl (fun c => absurd c (by decide)) (fun _ => ?_)
  refine e_aload_n dX12_plain_8 0 rfl rfl (pc2 := 9) rfl ?_
  refine e_getR (r := 103) fl_X12_13 dX12_plain_9 ⟨by decide, by decide, rfl⟩ (by decide +kernel) (by decide) (pc2 := 12) rfl ?_
  refine e_bipush (x := 10) dX12_plain_12 (by decide) (pc2 := 14) rfl ?_
  refine e_iload_n dX12_plain_14 1 rfl rfl (pc2 := 15) rfl ?_
  refine e_imul dX12_plain_15 (pc2 := 16) rfl ?_
  refine ev_topI (y := 0) (by decide) ?_
  refine e_iload_n dX12_plain_16 2 rfl rfl (pc2 := 17) rfl ?_
  refine e_iadd dX12_plain_17 (pc2 := 18) rfl ?_
  refine ev_topI (y := 6) (by decide) ?_
  refine e_iconst (x := 0) dX12_plain_18 (by decide) (pc2 := 19) rfl ?_
  refine e_iast dX12_plain_19 ⟨by decide, by decide, rfl⟩ (inb_v (by decide)) (h2 := H_203) rfl (pc2 := 20) rfl ?_
  refine e_iinc dX12_plain_20 2 rfl (c9 := 1) (by decide) (y := 7) (by decide) (by decide) (ls' := [(0, .ref 101), (1, .int 0), (2, .int 7)]) [1, 2, 0] rfl (pc2 := 23) rfl ?_
  refine e_goto (tgt := 2) dX12_plain_23 (by decide) ?_
  refine e_iload_n dX12_plain_2 2 rfl rfl (pc2 := 3) rfl ?_
  refine e_bipush (x := 10) dX12_plain_3 (by decide) (pc2 := 5) rfl ?_
  refine e_icmp_ge (tgt := 26) dX12_plain_5 (by decide) (pc2 := 8) rfl (fun c => absurd c (by decide)) (fun _ => ?_)
  refine e_aload_n dX12_plain_8 0 rfl rfl (pc2 := 9) rfl ?_
  refine e_getR (r := 103) fl_X12_13 dX12_plain_9 ⟨by decide, by decide, rfl⟩ (by decide +kernel) (by decide) (pc2 := 12) rfl ?_
  refine e_bipush (x := 10) dX12_plain_12 (by decide) (pc2 := 14) rfl ?_
  refine e_iload_n dX12_plain_14 1 rfl rfl (pc2 := 15) rfl ?_
  refine e_imul dX12_plain_15 (pc2 := 16) rfl ?_
  refine ev_topI (y := 0) (by decide) ?_
  refine e_iload_n dX12_plain_16 2 rfl rfl (pc2 := 17) rfl ?_
  refine e_iadd dX12_plain_17 (pc2 := 18) rfl ?_
  refine ev_topI (y := 7) (by decide) ?_
  refine e_iconst (x := 0) dX12_plain_18 (by decide) (pc2 := 19) rfl ?_
  refine e_iast dX12_plain_19 ⟨by decide, by decide, rfl⟩ (inb_v (by decide)) (h2 := H_204) rfl (pc2 := 20) rfl ?_
  refine e_iinc dX12_plain_20 2 rfl (c9 := 1) (by decide) (y := 8) (by decide) (by decide) (ls' := [(0, .ref 101), (1, .int 0), (2, .int 8)]) [1, 2, 0] rfl (pc2 := 23) rfl ?_
  refine e_goto (tgt := 2) dX12_plain_23 (by decide) ?_
  refine e_iload_n dX12_plain_2 2 rfl rfl (pc2 := 3) rfl ?_
  refine e_bipush (x := 10) dX12_plain_3 (by decide) (pc2 := 5) rfl ?_
  refine e_icmp_ge (tgt := 26) dX12_plain_5 (by decide) (pc2 := 8) rfl (fun c => absurd c (by decide)) (fun _ => ?_)
  refine e_aload_n dX12_plain_8 0 rfl rfl (pc2 := 9) rfl ?_
  refine e_getR (r := 103) fl_X12_13 dX12_plain_9 ⟨by decide, by decide, rfl⟩ (by decide +kernel) (by decide) (pc2 := 12) rfl ?_
  refine e_bipush (x := 10) dX12_plain_12 (by decide) (pc2 := 14) rfl ?_
  refine e_iload_n dX12_plain_14 1 rfl rfl (pc2 := 15) rfl ?_
  refine e_imul dX12_plain_15 (pc2 := 16) rfl ?_
  refine ev_topI (y := 0) (by decide) ?_
  refine e_iload_n dX12_plain_16 2 rfl rfl (pc2 := 17) rfl ?_
  refine e_iadd dX12_plain_17 (pc2 := 18) rfl ?_
  refine ev_topI (y := 8) (by decide) ?_
  refine e_iconst (x := 0) dX12_plain_18 (by decide) (pc2 := 19) rfl ?_
  refine e_iast dX12_plain_19 ⟨by decide, by decide, rfl⟩ (inb_v (by decide)) (h2 := H_205) rfl (pc2 := 20) rfl ?_
  refine e_iinc dX12_plain_20 2 rfl (c9 := 1) (by decide) (y := 9) (by decide) (by decide) (ls' := [(0, .ref 101), (1, .int 0), (2, .int 9)]) [1, 2, 0] rfl (pc2 := 23) rfl ?_
  refine e_goto (tgt := 2) dX12_plain_23 (by decide) ?_
  refine e_iload_n dX12_plain_2 2 rfl rfl (pc2 := 3) rfl ?_
  refine e_bipush (x := 10) dX12_plain_3 (by decide) (pc2 := 5) rfl ?_
  refine e_icmp_ge (tgt := 26) dX12_plain_5 (by decide) (pc2 := 8) rfl (fun c => absurd c (by decide)) (fun _ => ?_)
  refine e_aload_n dX12_plain_8 0 rfl rfl (pc2 := 9) rfl ?_
  refine e_getR (r := 103) fl_X12_13 dX12_plain_9 ⟨by decide, by decide, rfl⟩ (by decide +kernel) (by decide) (pc2 := 12) rfl ?_
  refine e_bipush (x := 10) dX12_plain_12 (by decide) (pc2 := 14) rfl ?_
  refine e_iload_n dX12_plain_14 1 rfl rfl (pc2 := 15) rfl ?_
  refine e_imul dX12_plain_15 (pc2 := 16) rfl ?_
  refine ev_topI (y := 0) (by decide) ?_
  refine e_iload_n dX12_plain_16 2 rfl rfl (pc2 := 17) rfl ?_
  refine e_iadd dX12_plain_17 (pc2 := 18) rfl ?_
  refine ev_topI (y := 9) (by decide) ?_
  refine e_iconst (x := 0) dX12_plain_18 (by decide) (pc2 := 19) rfl ?_
  refine e_iast dX12_plain_19 ⟨by decide, by decide, rfl⟩ (inb_v (by decide)) (h2 := H_206) rfl (pc2 := 20) rfl ?_
  refine e_iinc dX12_plain_20 2 rfl (c9 := 1) (by decide) (y := 10) (by decide) (by decide) (ls' := [(0, .ref 101), (1, .int 0), (2, .int 10)]) [1, 2, 0] rfl (pc2 := 23) rfl ?_
  refine e_goto (tgt := 2) dX12_plain_23 (by decide) ?_
  refine e_iload_n dX12_plain_2 2 rfl rfl (pc2 := 3) rfl ?_
  refine e_bipush (x := 10) dX12_plain_3 (by decide) (pc2 := 5) rfl ?_
  refine e_icmp_ge (tgt := 26) dX12_plain_5 (by decide) (pc2 := 8) rfl (fun _ => ?_) (fun c => absurd (by decide) c)
  refine e_aload_n dX12_plain_26 0 rfl rfl (pc2 := 27) rfl ?_
  refine e_getR (r := 103) fl_X12_13 dX12_plain_27 ⟨by decide, by decide, rfl⟩ (by decide +kernel) (by decide) (pc2 := 30) rfl ?_
  refine e_bipush (x := 10) dX12_plain_30 (by decide) (pc2 := 32) rfl ?_
  refine e_iload_n dX12_plain_32 1 rfl rfl (pc2 := 33) rfl ?_
  refine e_imul dX12_plain_33 (pc2 := 34) rfl ?_
  refine ev_topI (y := 0) (by decide) ?_
  refine e_iconst (x := 3) dX12_plain_34 (by decide) (pc2 := 35) rfl ?_
  refine e_iadd dX12_plain_35 (pc2 := 36) rfl ?_
  refine ev_topI (y := 3) (by decide) ?_
  refine e_sipush (x := 600) dX12_plain_36 (by decide) (pc2 := 39) rfl ?_
  refine e_iast dX12_plain_39 ⟨by decide, by decide, rfl⟩ (inb_v (by decide)) (h2 := H_207) rfl (pc2 := 40) rfl ?_
  refine e_aload_n dX12_plain_40 0 rfl rfl (pc2 := 41) rfl ?_
  refine e_getR (r := 103) fl_X12_13 dX12_plain_41 ⟨by decide, by decide, rfl⟩ (by decide +kernel) (by decide) (pc2 := 44) rfl ?_
  refine e_bipush (x := 10) dX12_plain_44 (by decide) (pc2 := 46) rfl ?_
  refine e_iload_n dX12_plain_46 1 rfl rfl (pc2 := 47) rfl ?_
  refine e_imul dX12_plain_47 (pc2 := 48) rfl ?_
  refine ev_topI (y := 0) (by decide) ?_
  refine e_iconst (x := 4) dX12_plain_48 (by decide) (pc2 := 49) rfl ?_
  refine e_iadd dX12_plain_49 (pc2 := 50) rfl ?_
  refine ev_topI (y := 4) (by decide) ?_
  refine e_sipush (x := 540) dX12_plain_50 (by decide) (pc2 := 53) rfl ?_
  refine e_iast dX12_plain_53 ⟨by decide, by decide, rfl⟩ (inb_v (by decide)) (h2 := H_208) rfl (pc2 := 54) rfl ?_
  refine e_aload_n dX12_plain_54 0 rfl rfl (pc2 := 55) rfl ?_
  refine e_getR (r := 103) fl_X12_13 dX12_plain_55 ⟨by decide, by decide, rfl⟩ (by decide +kernel) (by decide) (pc2 := 58) rfl ?_
  refine e_bipush (x := 10) dX12_plain_58 (by decide) (pc2 := 60) rfl ?_
  refine e_iload_n dX12_plain_60 1 rfl rfl (pc2 := 61) rfl ?_
  refine e_imul dX12_plain_61 (pc2 := 62) rfl ?_
  refine ev_topI (y := 0) (by decide) ?_
  refine e_iconst (x := 5) dX12_plain_62 (by decide) (pc2 := 63) rfl ?_
  refine e_iadd dX12_plain_63 (pc2 := 64) rfl ?_
  refine ev_topI (y := 5) (by decide) ?_
  refine e_iconst (x := 2) dX12_plain_64 (by decide) (pc2 := 65) rfl ?_
  refine e_iast dX12_plain_65 ⟨by decide, by decide, rfl⟩ (inb_v (by decide)) (h2 := H_209) rfl (pc2 := 66) rfl ?_
  refine e_aload_n dX12_plain_66 0 rfl rfl (pc2 := 67) rfl ?_
  refine e_getR (r := 103) fl_X12_13 dX12_plain_67 ⟨by decide, by decide, rfl⟩ (by decide +kernel) (by decide) (pc2 := 70) rfl ?_
  refine e_bipush (x := 10) dX12_plain_70 (by decide) (pc2 := 72) rfl ?_
  refine e_iload_n dX12_plain_72 1 rfl rfl (pc2 := 73) rfl ?_
  refine e_imul dX12_plain_73 (pc2 := 74) rfl ?_
  refine ev_topI (y := 0) (by decide) ?_
  refine e_bipush (x := 6) dX12_plain_74 (by decide) (pc2 := 76) rfl ?_
  refine e_iadd dX12_plain_76 (pc2 := 77) rfl ?_
  refine ev_topI (y := 6) (by decide) ?_
  refine e_bipush (x := 10) dX12_plain_77 (by decide) (pc2 := 79) rfl ?_
  refine e_iast dX12_plain_79 ⟨by decide, by decide, rfl⟩ (inb_v (by decide)) (h2 := H_210) rfl (pc2 := 80) rfl ?_
  refine e_aload_n dX12_plain_80 0 rfl rfl (pc2 := 81) rfl ?_
  refine e_getR (r := 103) fl_X12_13 dX12_plain_81 ⟨by decide, by decide, rfl⟩ (by decide +kernel) (by decide) (pc2 := 84) rfl ?_
  refine e_bipush (x := 10) dX12_plain_84 (by decide) (pc2 := 86) rfl ?_
  refine e_iload_n dX12_plain_86 1 rfl rfl (pc2 := 87) rfl ?_
  refine e_imul dX12_plain_87 (pc2 := 88) rfl ?_
  refine ev_topI (y := 0) (by decide) ?_
  refine e_bipush (x := 7) dX12_plain_88 (by decide) (pc2 := 90) rfl ?_
  refine e_iadd dX12_plain_90 (pc2 := 91) rfl ?_
  refine ev_topI (y := 7) (by decide) ?_
  refine e_bipush (x := 60) dX12_plain_91 (by decide) (pc2 := 93) rfl ?_
  refine e_iast dX12_plain_93 ⟨by decide, by decide, rfl⟩ (inb_v (by decide)) (h2 := H_211) rfl (pc2 := 94) rfl ?_
  refine e_aload_n dX12_plain_94 0 rfl rfl (pc2 := 95) rfl ?_
  refine e_getR (r := 103) fl_X12_13 dX12_plain_95 ⟨by decide, by decide, rfl⟩ (by decide +kernel) (by decide) (pc2 := 98) rfl ?_
  refine e_bipush (x := 10) dX12_plain_98 (by decide) (pc2 := 100) rfl ?_
  refine e_iload_n dX12_plain_100 1 rfl rfl (pc2 := 101) rfl ?_
  refine e_imul dX12_plain_101 (pc2 := 102) rfl ?_
  refine ev_topI (y := 0) (by decide) ?_
  refine e_bipush (x := 8) dX12_plain_102 (by decide) (pc2 := 104) rfl ?_
  refine e_iadd dX12_plain_104 (pc2 := 105) rfl ?_
  refine ev_topI (y := 8) (by decide) ?_
  refine e_bipush (x := 30) dX12_plain_105 (by decide) (pc2 := 107) rfl ?_
  refine e_iast dX12_plain_107 ⟨by decide, by decide, rfl⟩ (inb_v (by decide)) (h2 := H_212) rfl (pc2 := 108) rfl ?_
  refine e_aload_n dX12_plain_108 0 rfl rfl (pc2 := 109) rfl ?_
  refine e_getR (r := 103) fl_X12_13 dX12_plain_109 ⟨by decide, by decide, rfl⟩ (by decide +kernel) (by decide) (pc2 := 112) rfl ?_
  refine e_bipush (x := 10) dX12_plain_112 (by decide) (pc2 := 114) rfl ?_
  refine e_iload_n dX12_plain_114 1 rfl rfl (pc2 := 115) rfl ?_
  refine e_imul dX12_plain_115 (pc2 := 116) rfl ?_
  refine ev_topI (y := 0) (by decide) ?_
  refine e_bipush (x := 9) dX12_plain_116 (by decide) (pc2 := 118) rfl ?_
  refine e_iadd dX12_plain_118 (pc2 := 119) rfl ?_
  refine ev_topI (y := 9) (by decide) ?_
  refine e_iconst (x := 5) dX12_plain_119 (by decide) (pc2 := 120) rfl ?_
  refine e_iast dX12_plain_120 ⟨by decide, by decide, rfl⟩ (inb_v (by decide)) (h2 := H_213) rfl (pc2 := 121) rfl ?_
  refine e_iconst (x := 0) dX12_plain_121 (by decide) (pc2 := 122) rfl ?_
  refine e_istore_n dX12_plain_122 rfl (by decide) rfl (ls' := [(0, .ref 101), (1, .int 0), (2, .int 0)]) [1, 2, 0] rfl (pc2 := 123) rfl ?_
  refine e_iload_n dX12_plain_123 2 rfl rfl (pc2 := 124) rfl ?_
  refine e_iconst (x := 4) dX12_plain_124 (by decide) (pc2 := 125) rfl ?_
  refine e_icmp_ge (tgt := 154) dX12_plain_125 (by decide) (pc2 := 128) rfl (fun c => absurd c (by decide)) (fun _ => ?_)
  refine e_aload_n dX12_plain_128 0 rfl rfl (pc2 := 129) rfl ?_
  refine e_getR (r := 119) fl_X12_62 dX12_plain_129 ⟨by decide, by decide, rfl⟩ (by decide +kernel) (by decide) (pc2 := 132) rfl ?_
  refine e_iconst (x := 4) dX12_plain_132 (by decide) (pc2 := 133) rfl ?_
  refine e_iload_n dX12_plain_133 1 rfl rfl (pc2 := 134) rfl ?_
  refine e_imul dX12_plain_134 (pc2 := 135) rfl ?_
  refine ev_topI (y := 0) (by decide) ?_
  refine e_iload_n dX12_plain_135 2 rfl rfl (pc2 := 136) rfl ?_
  refine e_iadd dX12_plain_136 (pc2 := 137) rfl ?_
  refine ev_topI (y := 0) (by decide) ?_
  refine e_iload_n dX12_plain_137 2 rfl rfl (pc2 := 138) rfl ?_
  refine e_if_ne (tgt := 146) dX12_plain_138 (by decide) (pc2 := 141) rfl (fun c => absurd (by decide) c) (fun _ => ?_)
  refine e_bipush (x := 10) dX12_plain_141 (by decide) (pc2 := 143) rfl ?_
  refine e_goto (tgt := 147) dX12_plain_143 (by decide) ?_
  refine e_iast dX12_plain_147 ⟨by decide, by decide, rfl⟩ (inb_v (by decide)) (h2 := H_214) rfl (pc2 := 148) rfl ?_
  refine e_iinc dX12_plain_148 2 rfl (c9 := 1) (by decide) (y := 1) (by decide) (by decide) (ls' := [(0, .ref 101), (1, .int 0), (2, .int 1)]) [1, 2, 0] rfl (pc2 := 151) rfl ?_
  refine e_goto (tgt := 123) dX12_plain_151 (by decide) ?_
  refine e_iload_n dX12_plain_123 2 rfl rfl (pc2 := 124) rfl ?_
  refine e_iconst (x := 4) dX12_plain_124 (by decide) (pc2 := 125) rfl ?_
  refine e_icmp_ge (tgt := 154) dX12_plain_125 (by decide) (pc2 := 128) rfl (fun c => absurd c (by decide)) (fun _ => ?_)
  refine e_aload_n dX12_plain_128 0 rfl rfl (pc2 := 129) rfl ?_
  refine e_getR (r := 119) fl_X12_62 dX12_plain_129 ⟨by decide, by decide, rfl⟩ (by decide +kernel) (by decide) (pc2 := 132) rfl ?_
  refine e_iconst (x := 4) dX12_plain_132 (by decide) (pc2 := 133) rfl ?_
  refine e_iload_n dX12_plain_133 1 rfl rfl (pc2 := 134) rfl ?_
  refine e_imul dX12_plain_134 (pc2 := 135) rfl ?_
  refine ev_topI (y := 0) (by decide) ?_
  refine e_iload_n dX12_plain_135 2 rfl rfl (pc2 := 136) rfl ?_
  refine e_iadd dX12_plain_136 (pc2 := 137) rfl ?_
  refine ev_topI (y := 1) (by decide) ?_
  refine e_iload_n dX12_plain_137 2 rfl rfl (pc2 := 138) rfl ?_
  refine e_if_ne (tgt := 146) dX12_plain_138 (by decide) (pc2 := 141) rfl (fun _ => ?_) (fun c => absurd c (by decide))
  refine e_iconst (x := 0) dX12_plain_146 (by decide) (pc2 := 147) rfl ?_
  refine e_iast dX12_plain_147 ⟨by decide, by decide, rfl⟩ (inb_v (by decide)) (h2 := H_215) rfl (pc2 := 148) rfl ?_
  refine e_iinc dX12_plain_148 2 rfl (c9 := 1) (by decide) (y := 2) (by decide) (by decide) (ls' := [(0, .ref 101), (1, .int 0), (2, .int 2)]) [1, 2, 0] rfl (pc2 := 151) rfl ?_
  refine e_goto (tgt := 123) dX12_plain_151 (by decide) ?_
  refine e_iload_n dX12_plain_123 2 rfl rfl (pc2 := 124) rfl ?_
  refine e_iconst (x := 4) dX12_plain_124 (by decide) (pc2 := 125) rfl ?_
  refine e_icmp_ge (tgt := 154) dX12_plain_125 (by decide) (pc2 := 128) rfl (fun c => absurd c (by decide)) (fun _ => ?_)
  refine e_aload_n dX12_plain_128 0 rfl rfl (pc2 := 129) rfl ?_
  refine e_getR (r := 119) fl_X12_62 dX12_plain_129 ⟨by decide, by decide, rfl⟩ (by decide +kernel) (by decide) (pc2 := 132) rfl ?_
  refine e_iconst (x := 4) dX12_plain_132 (by decide) (pc2 := 133) rfl ?_
  refine e_iload_n dX12_plain_133 1 rfl rfl (pc2 := 134) rfl ?_
  refine e_imul dX12_plain_134 (pc2 := 135) rfl ?_
  refine ev_topI (y := 0) (by decide) ?_
  refine e_iload_n dX12_plain_135 2 rfl rfl (pc2 := 136) rfl ?_
  refine e_iadd dX12_plain_136 (pc2 := 137) rfl ?_
  refine ev_topI (y := 2) (by decide) ?_
  refine e_iload_n dX12_plain_137 2 rfl rfl (pc2 := 138) rfl ?_
  refine e_if_ne (tgt := 146) dX12_plain_138 (by decide) (pc2 := 141) rfl (fun _ => ?_) (fun c => absurd c (by decide))
  refine e_iconst (x := 0) dX12_plain_146 (by decide) (pc2 := 147) rfl ?_
  refine e_iast dX12_plain_147 ⟨by decide, by decide, rfl⟩ (inb_v (by decide)) (h2 := H_216) rfl (pc2 := 148) rfl ?_
  refine e_iinc dX12_plain_148 2 rfl (c9 := 1) (by decide) (y := 3) (by decide) (by decide) (ls' := [(0, .ref 101), (1, .int 0), (2, .int 3)]) [1, 2, 0] rfl (pc2 := 151) rfl ?_
  refine e_goto (tgt := 123) dX12_plain_151 (by decide) ?_
  refine e_iload_n dX12_plain_123 2 rfl rfl (pc2 := 124) rfl ?_
  refine e_iconst (x := 4) dX12_plain_124 (by decide) (pc2 := 125) rfl ?_
  refine e_icmp_ge (tgt := 154) dX12_plain_125 (by decide) (pc2 := 128) rfl (fun c => absurd c (by decide)) (fun _ => ?_)
  refine e_aload_n dX12_plain_128 0 rfl rfl (pc2 := 129) rfl ?_
  refine e_getR (r := 119) fl_X12_62 dX12_plain_129 ⟨by decide, by decide, rfl⟩ (by decide +kernel) (by decide) (pc2 := 132) rfl ?_
  refine e_iconst (x := 4) dX12_plain_132 (by decide) (pc2 := 133) rfl ?_
  refine e_iload_n dX12_plain_133 1 rfl rfl (pc2 := 134) rfl ?_
  refine e_imul dX12_plain_134 (pc2 := 135) rfl ?_
  refine ev_topI (y := 0) (by decide) ?_
  refine e_iload_n dX12_plain_135 2 rfl rfl (pc2 := 136) rfl ?_
  refine e_iadd dX12_plain_136 (pc2 := 137) rfl ?_
  refine ev_topI (y := 3) (by decide) ?_
  refine e_iload_n dX12_plain_137 2 rfl rfl (pc2 := 138) rfl ?_
  refine e_if_ne (tgt := 146) dX12_plain_138 (by decide) (pc2 := 141) rfl (fun _ => ?_) (fun c => absurd c (by decide))
  refine e_iconst (x := 0) dX12_plain_146 (by decide) (pc2 := 147) rfl ?_
  refine e_iast dX12_plain_147 ⟨by decide, by decide, rfl⟩ (inb_v (by decide)) (h2 := H_217) rfl (pc2 := 148) rfl ?_
  refine e_iinc dX12_plain_148 2 rfl (c9 := 1) (by decide) (y := 4) (by decide) (by decide) (ls' := [(0, .ref 101), (1, .int 0), (2, .int 4)]) [1, 2, 0] rfl (pc2 := 151) rfl ?_
  refine e_goto (tgt := 123) dX12_plain_151 (by decide) ?_
  refine e_iload_n dX12_plain_123 2 rfl rfl (pc2 := 124) rfl ?_
  refine e_iconst (x := 4) dX12_plain_124 (by decide) (pc2 := 125) rfl ?_
  refine e_icmp_ge (tgt := 154) dX12_plain_125 (by decide) (pc2 := 128) rfl (fun _ => ?_) (fun c => absurd (by decide) c)
  refine e_aload_n dX12_plain_154 0 rfl rfl (pc2 := 155) rfl ?_
  refine e_getR (r := 120) fl_X12_65 dX12_plain_155 ⟨by decide, by decide, rfl⟩ (by decide +kernel) (by decide) (pc2 := 158) rfl ?_
  refine e_iload_n dX12_plain_158 1 rfl rfl (pc2 := 159) rfl ?_
  refine e_sipush (x := 1000) dX12_plain_159 (by decide) (pc2 := 162) rfl ?_
  refine e_iload_n dX12_plain_162 1 rfl rfl (pc2 := 163) rfl ?_
  refine e_imul dX12_plain_163 (pc2 := 164) rfl ?_
  refine ev_topI (y := 0) (by decide) ?_
  refine e_iast dX12_plain_164 ⟨by decide, by decide, rfl⟩ (inb_v (by decide)) (h2 := H_218) rfl (pc2 := 165) rfl ?_
  refine e_aload_n dX12_plain_165 0 rfl rfl (pc2 := 166) rfl ?_
  refine e_getR (r := 121) fl_X12_68 dX12_plain_166 ⟨by decide, by decide, rfl⟩ (by decide +kernel) (by decide) (pc2 := 169) rfl ?_
  refine e_iload_n dX12_plain_169 1 rfl rfl (pc2 := 170) rfl ?_
  refine e_sipush (x := 1000) dX12_plain_170 (by decide) (pc2 := 173) rfl ?_
  refine e_iload_n dX12_plain_173 1 rfl rfl (pc2 := 174) rfl ?_
  refine e_imul dX12_plain_174 (pc2 := 175) rfl ?_
  refine ev_topI (y := 0) (by decide) ?_
  refine e_iast dX12_plain_175 ⟨by decide, by decide, rfl⟩ (inb_v (by decide)) (h2 := H_219) rfl (pc2 := 176) rfl ?_
  exact e_vret rfl dX12_plain_176
set_option maxRecDepth 20000 in
set_option maxHeartbeats 4000000 in
theorem c44_X12_fresh : Mt 1 (yX12_fresh, cX12_fresh, 2, none) [.ref 101] 157 H_219 none 157 H_228 := by
  refine Mt.of (by decide +kernel) (by decide) (Nat.le_of_ble_eq_true rfl) ?_
  show Ev 1 (yX12_fresh, cX12_fresh, 2, none) 157 none 157 H_228 0 157 [(0, .ref 101)] [] H_219
  refine e_aload_n dX12_fresh_0 0 rfl rfl (pc2 := 1) rfl ?_
  refine e_getR (r := 145) fl_X12_141 dX12_fresh_1 ⟨by decide, by decide, rfl⟩ (by decide +kernel) (by decide) (pc2 := 4) rfl ?_
  refine e_iconst (x := 0) dX12_fresh_4 (by decide) (pc2 := 5) rfl ?_
  refine e_iconst (x := 0) dX12_fresh_5 (by decide) (pc2 := 6) rfl ?_
  refine e_iast dX12_fresh_6 ⟨by decide, by decide, rfl⟩ (inb_v (by decide)) (h2 := H_220) rfl (pc2 := 7) rfl ?_
  refine e_aload_n dX12_fresh_7 0 rfl rfl (pc2 := 8) rfl ?_
  refine e_getR (r := 145) fl_X12_141 dX12_fresh_8 ⟨by decide, by decide, rfl⟩ (by decide +kernel) (by decide) (pc2 := 11) rfl ?_
  refine e_iconst (x := 1) dX12_fresh_11 (by decide) (pc2 := 12) rfl ?_
  refine e_aload_n dX12_fresh_12 0 rfl rfl (pc2 := 13) rfl ?_
  refine e_getR (r := 103) fl_X12_13 dX12_fresh_13 ⟨by decide, by decide, rfl⟩ (by decide +kernel) (by decide) (pc2 := 16) rfl ?_
  refine e_iconst (x := 4) dX12_fresh_16 (by decide) (pc2 := 17) rfl ?_
  refine e_iald dX12_fresh_17 ⟨by decide, by decide, rfl⟩ (inb_v (by decide)) (pc2 := 18) rfl ?_
  refine ev_topI (y := 540) (by decide +kernel) ?_
  refine e_iast dX12_fresh_18 ⟨by decide, by decide, rfl⟩ (inb_v (by decide)) (h2 := H_221) rfl (pc2 := 19) rfl ?_
  refine e_aload_n dX12_fresh_19 0 rfl rfl (pc2 := 20) rfl ?_
  refine e_getR (r := 145) fl_X12_141 dX12_fresh_20 ⟨by decide, by decide, rfl⟩ (by decide +kernel) (by decide) (pc2 := 23) rfl ?_
  refine e_iconst (x := 2) dX12_fresh_23 (by decide) (pc2 := 24) rfl ?_
  refine e_iconst (x := 0) dX12_fresh_24 (by decide) (pc2 := 25) rfl ?_
  refine e_iast dX12_fresh_25 ⟨by decide, by decide, rfl⟩ (inb_v (by decide)) (h2 := H_222) rfl (pc2 := 26) rfl ?_
  refine e_aload_n dX12_fresh_26 0 rfl rfl (pc2 := 27) rfl ?_
  refine e_getR (r := 145) fl_X12_141 dX12_fresh_27 ⟨by decide, by decide, rfl⟩ (by decide +kernel) (by decide) (pc2 := 30) rfl ?_
  refine e_iconst (x := 3) dX12_fresh_30 (by decide) (pc2 := 31) rfl ?_
  refine e_aload_n dX12_fresh_31 0 rfl rfl (pc2 := 32) rfl ?_
  refine e_getR (r := 103) fl_X12_13 dX12_fresh_32 ⟨by decide, by decide, rfl⟩ (by decide +kernel) (by decide) (pc2 := 35) rfl ?_
  refine e_iconst (x := 5) dX12_fresh_35 (by decide) (pc2 := 36) rfl ?_
  refine e_iald dX12_fresh_36 ⟨by decide, by decide, rfl⟩ (inb_v (by decide)) (pc2 := 37) rfl ?_
  refine ev_topI (y := 2) (by decide +kernel) ?_
  refine e_iast dX12_fresh_37 ⟨by decide, by decide, rfl⟩ (inb_v (by decide)) (h2 := H_223) rfl (pc2 := 38) rfl ?_
  refine e_iconst (x := 0) dX12_fresh_38 (by decide) (pc2 := 39) rfl ?_
  refine e_istore_n dX12_fresh_39 rfl (by decide) rfl (ls' := [(0, .ref 101), (1, .int 0)]) [1, 0] rfl (pc2 := 40) rfl ?_
  refine e_iload_n dX12_fresh_40 1 rfl rfl (pc2 := 41) rfl ?_
  refine e_iconst (x := 5) dX12_fresh_41 (by decide) (pc2 := 42) rfl ?_
  refine e_icmp_ge (tgt := 79) dX12_fresh_42 (by decide) (pc2 := 45) rfl (fun c => absurd c (by decide)) (fun _ => ?_)
  refine e_aload_n dX12_fresh_45 0 rfl rfl (pc2 := 46) rfl ?_
  refine e_getR (r := 145) fl_X12_141 dX12_fresh_46 ⟨by decide, by decide, rfl⟩ (by decide +kernel) (by decide) (pc2 := 49) rfl ?_
  refine e_iconst (x := 4) dX12_fresh_49 (by decide) (pc2 := 50) rfl ?_
  refine e_iload_n dX12_fresh_50 1 rfl rfl (pc2 := 51) rfl ?_
  refine e_iadd dX12_fresh_51 (pc2 := 52) rfl ?_
  refine ev_topI (y := 4) (by decide) ?_
  refine e_iload_n dX12_fresh_52 1 rfl rfl (pc2 := 53) rfl ?_
  refine e_aload_n dX12_fresh_53 0 rfl rfl (pc2 := 54) rfl ?_
  refine e_getR (r := 103) fl_X12_13 dX12_fresh_54 ⟨by decide, by decide, rfl⟩ (by decide +kernel) (by decide) (pc2 := 57) rfl ?_
  refine e_iconst (x := 1) dX12_fresh_57 (by decide) (pc2 := 58) rfl ?_
  refine e_iald dX12_fresh_58 ⟨by decide, by decide, rfl⟩ (inb_v (by decide)) (pc2 := 59) rfl ?_
  refine ev_topI (y := 0) (by decide +kernel) ?_
  refine e_icmp_ge (tgt := 71) dX12_fresh_59 (by decide) (pc2 := 62) rfl (fun _ => ?_) (fun c => absurd (by decide) c)
  refine e_iconst (x := 0) dX12_fresh_71 (by decide) (pc2 := 72) rfl ?_
  refine e_iast dX12_fresh_72 ⟨by decide, by decide, rfl⟩ (inb_v (by decide)) (h2 := H_224) rfl (pc2 := 73) rfl ?_
  refine e_iinc dX12_fresh_73 1 rfl (c9 := 1) (by decide) (y := 1) (by decide) (by decide) (ls' := [(0, .ref 101), (1, .int 1)]) [1, 0] rfl (pc2 := 76) rfl ?_
  refine e_goto (tgt := 40) dX12_fresh_76 (by decide) ?_
  refine e_iload_n dX12_fresh_40 1 rfl rfl (pc2 := 41) rfl ?_
  refine e_iconst (x := 5) dX12_fresh_41 (by decide) (pc2 := 42) rfl ?_
  refine e_icmp_ge (tgt := 79) dX12_fresh_42 (by decide) (pc2 := 45) rfl (fun c => absurd c (by decide)) (fun _ => ?_)
  refine e_aload_n dX12_fresh_45 0 rfl rfl (pc2 := 46) rfl ?_
  refine e_getR (r := 145) fl_X12_141 dX12_fresh_46 ⟨by decide, by decide, rfl⟩ (by decide +kernel) (by decide) (pc2 := 49) rfl ?_
  refine e_iconst (x := 4) dX12_fresh_49 (by decide) (pc2 := 50) rfl ?_
  refine e_iload_n dX12_fresh_50 1 rfl rfl (pc2 := 51) rfl ?_
  refine e_iadd dX12_fresh_51 (pc2 := 52) rfl ?_
  refine ev_topI (y := 5) (by decide) ?_
  refine e_iload_n dX12_fresh_52 1 rfl rfl (pc2 := 53) rfl ?_
  refine e_aload_n dX12_fresh_53 0 rfl rfl (pc2 := 54) rfl ?_
  refine e_getR (r := 103) fl_X12_13 dX12_fresh_54 ⟨by decide, by decide, rfl⟩ (by decide +kernel) (by decide) (pc2 := 57) rfl ?_
  refine e_iconst (x := 1) dX12_fresh_57 (by decide) (pc2 := 58) rfl ?_
  refine e_iald dX12_fresh_58 ⟨by decide, by decide, rfl⟩ (inb_v (by decide)) (pc2 := 59) rfl ?_
  refine ev_topI (y := 0) (by decide +kernel) ?_
  refine e_icmp_ge (tgt := 71) dX12_fresh_59 (by decide) (pc2 := 62) rfl (fun _ => ?_) (fun c => absurd (by decide) c)
  refine e_iconst (x := 0) dX12_fresh_71 (by decide) (pc2 := 72) rfl ?_
  refine e_iast dX12_fresh_72 ⟨by decide, by decide, rfl⟩ (inb_v (by decide)) (h2 := H_225) rfl (pc2 := 73) rfl ?_
  refine e_iinc dX12_fresh_73 1 rfl (c9 := 1) (by decide) (y := 2) (by decide) (by decide) (ls' := [(0, .ref 101), (1, .int 2)]) [1, 0] rfl (pc2 := 76) rfl ?_
  refine e_goto (tgt := 40) dX12_fresh_76 (by decide) ?_
  refine e_iload_n dX12_fresh_40 1 rfl rfl (pc2 := 41) rfl ?_
  refine e_iconst (x := 5) dX12_fresh_41 (by decide) (pc2 := 42) rfl ?_
  refine e_icmp_ge (tgt := 79) dX12_fresh_42 (by decide) (pc2 := 45) rfl (fun c => absurd c (by decide)) (fun _ => ?_)
  refine e_aload_n dX12_fresh_45 0 rfl rfl (pc2 := 46) rfl ?_
  refine e_getR (r := 145) fl_X12_141 dX12_fresh_46 ⟨by decide, by decide, rfl⟩ (by decide +kernel) (by decide) (pc2 := 49) rfl ?_
  refine e_iconst (x := 4) dX12_fresh_49 (by decide) (pc2 := 50) rfl ?_
  refine e_iload_n dX12_fresh_50 1 rfl rfl (pc2 := 51) rfl ?_
  refine e_iadd dX12_fresh_51 (pc2 := 52) rfl ?_
  refine ev_topI (y := 6) (by decide) ?_
  refine e_iload_n dX12_fresh_52 1 rfl rfl (pc2 := 53) rfl ?_
  refine e_aload_n dX12_fresh_53 0 rfl rfl (pc2 := 54) rfl ?_
  refine e_getR (r := 103) fl_X12_13 dX12_fresh_54 ⟨by decide, by decide, rfl⟩ (by decide +kernel) (by decide) (pc2 := 57) rfl ?_
  refine e_iconst (x := 1) dX12_fresh_57 (by decide) (pc2 := 58) rfl ?_
  refine e_iald dX12_fresh_58 ⟨by decide, by decide, rfl⟩ (inb_v (by decide)) (pc2 := 59) rfl ?_
  refine ev_topI (y := 0) (by decide +kernel) ?_
  refine e_icmp_ge (tgt := 71) dX12_fresh_59 (by decide) (pc2 := 62) rfl (fun _ => ?_) (fun c => absurd (by decide) c)
  refine e_iconst (x := 0) dX12_fresh_71 (by decide) (pc2 := 72) rfl ?_
  refine e_iast dX12_fresh_72 ⟨by decide, by decide, rfl⟩ (inb_v (by decide)) (h2 := H_226) rfl (pc2 := 73) rfl ?_
  refine e_iinc dX12_fresh_73 1 rfl (c9 := 1) (by decide) (y := 3) (by decide) (by decide) (ls' := [(0, .ref 101), (1, .int 3)]) [1, 0] rfl (pc2 := 76) rfl ?_
  refine e_goto (tgt := 40) dX12_fresh_76 (by decide) ?_
  refine e_iload_n dX12_fresh_40 1 rfl rfl (pc2 := 41) rfl ?_
  refine e_iconst (x := 5) dX12_fresh_41 (by decide) (pc2 := 42) rfl ?_
  refine e_icmp_ge (tgt := 79) dX12_fresh_42 (by decide) (pc2 := 45) rfl (fun c => absurd c (by decide)) (fun _ => ?_)
  refine e_aload_n dX12_fresh_45 0 rfl rfl (pc2 := 46) rfl ?_
  refine e_getR (r := 145) fl_X12_141 dX12_fresh_46 ⟨by decide, by decide, rfl⟩ (by decide +kernel) (by decide) (pc2 := 49) rfl ?_
  refine e_iconst (x := 4) dX12_fresh_49 (by decide) (pc2 := 50) rfl ?_
  refine e_iload_n dX12_fresh_50 1 rfl rfl (pc2 := 51) rfl ?_
  refine e_iadd dX12_fresh_51 (pc2 := 52) rfl ?_
  refine ev_topI (y := 7) (by decide) ?_
  refine e_iload_n dX12_fresh_52 1 rfl rfl (pc2 := 53) rfl ?_
  refine e_aload_n dX12_fresh_53 0 rfl rfl (pc2 := 54) rfl ?_
  refine e_getR (r := 103) fl_X12_13 dX12_fresh_54 ⟨by decide, by decide, rfl⟩ (by decide +kernel) (by decide) (pc2 := 57) rfl ?_
  refine e_iconst (x := 1) dX12_fresh_57 (by decide) (pc2 := 58) rfl ?_
  refine e_iald dX12_fresh_58 ⟨by decide, by decide, rfl⟩ (inb_v (by decide)) (pc2 := 59) rfl ?_
  refine ev_topI (y := 0) (by decide +kernel) ?_
  refine e_icmp_ge (tgt := 71) dX12_fresh_59 (by decide) (pc2 := 62) rfl (fun _ => ?_) (fun c => absurd (by decide) c)
  refine e_iconst (x := 0) dX12_fresh_71 (by decide) (pc2 := 72) rfl ?_
  refine e_iast dX12_fresh_72 ⟨by decide, by decide, rfl⟩ (inb_v (by decide)) (h2 := H_227) rfl (pc2 := 73) rfl ?_
  refine e_iinc dX12_fresh_73 1 rfl (c9 := 1) (by decide) (y := 4) (by decide) (by decide) (ls' := [(0, .ref 101), (1, .int 4)]) [1, 0] rfl (pc2 := 76) rfl ?_
  refine e_goto (tgt := 40) dX12_fresh_76 (by decide) ?_
  refine e_iload_n dX12_fresh_40 1 rfl rfl (pc2 := 41) rfl ?_
  refine e_iconst (x := 5) dX12_fresh_41 (by decide) (pc2 := 42) rfl ?_
  refine e_icmp_ge (tgt := 79) dX12_fresh_42 (by decide) (pc2 := 45) rfl (fun c => absurd c (by decide)) (fun _ => ?_)
  refine e_aload_n dX12_fresh_45 0 rfl rfl (pc2 := 46) rfl ?_
  refine e_getR (r := 145) fl_X12_141 dX12_fresh_46 ⟨by decide, by decide, rfl⟩ (by decide +kernel) (by decide) (pc2 := 49) rfl ?_
  refine e_iconst (x := 4) dX12_fresh_49 (by decide) (pc2 := 50) rfl ?_
  refine e_iload_n dX12_fresh_50 1 rfl rfl (pc2 := 51) rfl ?_
  refine e_iadd dX12_fresh_51 (pc2 := 52) rfl ?_
  refine ev_topI (y := 8) (by decide) ?_
  refine e_iload_n dX12_fresh_52 1 rfl rfl (pc2 := 53) rfl ?_
  refine e_aload_n dX12_fresh_53 0 rfl rfl (pc2 := 54) rfl ?_
  refine e_getR (r := 103) fl_X12_13 dX12_fresh_54 ⟨by decide, by decide, rfl⟩ (by decide +kernel) (by decide) (pc2 := 57) rfl ?_
  refine e_iconst (x := 1) dX12_fresh_57 (by decide) (pc2 := 58) rfl ?_
  refine e_iald dX12_fresh_58 ⟨by decide, by decide, rfl⟩ (inb_v (by decide)) (pc2 := 59) rfl ?_
  refine ev_topI (y := 0) (by decide +kernel) ?_
  refine e_icmp_ge (tgt := 71) dX12_fresh_59 (by decide) (pc2 := 62) rfl (fun _ => ?_) (fun c => absurd (by decide) c)
  refine e_iconst (x := 0) dX12_fresh_71 (by decide) (pc2 := 72) rfl ?_
  refine e_iast dX12_fresh_72 ⟨by decide, by decide, rfl⟩ (inb_v (by decide)) (h2 := H_228) rfl (pc2 := 73) rfl ?_
  refine e_iinc dX12_fresh_73 1 rfl (c9 := 1) (by decide) (y := 5) (by decide) (by decide) (ls' := [(0, .ref 101), (1, .int 5)]) [1, 0] rfl (pc2 := 76) rfl ?_
  refine e_goto (tgt := 40) dX12_fresh_76 (by decide) ?_
  refine e_iload_n dX12_fresh_40 1 rfl rfl (pc2 := 41) rfl ?_
  refine e_iconst (x := 5) dX12_fresh_41 (by decide) (pc2 := 42) rfl ?_
  refine e_icmp_ge (tgt := 79) dX12_fresh_42 (by decide) (pc2 := 45) rfl (fun _ => ?_) (fun c => absurd (by decide) c)
  exact e_vret rfl dX12_fresh_79
set_option maxRecDepth 20000 in
set_option maxHeartbeats 4000000 in
theorem c42_X12_init : Mt 2 (yX12_init, cX12_init, 1, none) [.ref 101] 101 H_138 none 157 H_228 := by
  refine Mt.of (by decide +kernel) (by decide) (Nat.le_of_ble_eq_true rfl) ?_
  show Ev 2 (yX12_init, cX12_init, 1, none) 101 none 157 H_228 0 101 [(0, .ref 101)] [] H_138
  refine e_aload_n dX12_init_0 0 rfl rfl (pc2 := 1) rfl ?_
  refine e_obji dX12_init_1 (TG_t6 36 (by decide +kernel) rfl) tgo_1 tgo_2 (by decide) (Nat.le_of_ble_eq_true rfl) (pc2 := 4) rfl ?_
  refine e_aload_n dX12_init_4 0 rfl rfl (pc2 := 5) rfl ?_
  refine e_sipush (x := 1000) dX12_init_5 (by decide) (pc2 := 8) rfl ?_
  refine e_newI (m0 := 1000) dX12_init_8 (by decide) (by decide) (by decide) (TG_t1 58 (by decide +kernel) rfl) rfl hb_138_101 ⟨by decide, by decide, by decide⟩ (by simp [okr]) (by simp [okr]) (pc2 := 10) rfl ?_
  refine e_putRF fl_X12_7 dX12_init_10 ⟨by decide, by decide, rfl⟩ fn_11_2 rfl rc_11 frc_11_2 (by decide) (h2 := H_139) rfl (pc2 := 13) rfl ?_
  refine e_aload_n dX12_init_13 0 rfl rfl (pc2 := 14) rfl ?_
  refine e_bipush (x := 20) dX12_init_14 (by decide) (pc2 := 16) rfl ?_
  refine e_newI (m0 := 20) dX12_init_16 (by decide) (by decide) (by decide) (TG_t1 58 (by decide +kernel) rfl) rfl hb_139_102 ⟨by decide, by decide, by decide⟩ (by simp [okr]) (by simp [okr]) (pc2 := 18) rfl ?_
  refine e_putRF fl_X12_13 dX12_init_18 ⟨by decide, by decide, rfl⟩ fn_11_10 rfl rc_11 frc_11_10 (by decide) (h2 := H_140) rfl (pc2 := 21) rfl ?_
  refine e_aload_n dX12_init_21 0 rfl rfl (pc2 := 22) rfl ?_
  refine e_bipush (x := 12) dX12_init_22 (by decide) (pc2 := 24) rfl ?_
  refine e_newL (m0 := 12) dX12_init_24 (by decide) (by decide) (by decide) (TG_t1 103 (by decide +kernel) rfl) rfl hb_140_103 ⟨by decide, by decide, by decide⟩ (by simp [okr]) (by simp [okr]) (pc2 := 26) rfl ?_
  refine e_putRF fl_X12_16 dX12_init_26 ⟨by decide, by decide, rfl⟩ fn_11_11 rfl rc_11 frc_11_11 (by decide) (h2 := H_141) rfl (pc2 := 29) rfl ?_
  refine e_aload_n dX12_init_29 0 rfl rfl (pc2 := 30) rfl ?_
  refine e_bipush (x := 10) dX12_init_30 (by decide) (pc2 := 32) rfl ?_
  refine e_newL (m0 := 10) dX12_init_32 (by decide) (by decide) (by decide) (TG_t1 103 (by decide +kernel) rfl) rfl hb_141_104 ⟨by decide, by decide, by decide⟩ (by simp [okr]) (by simp [okr]) (pc2 := 34) rfl ?_
  refine e_putRF fl_X12_20 dX12_init_34 ⟨by decide, by decide, rfl⟩ fn_11_12 rfl rc_11 frc_11_12 (by decide) (h2 := H_142) rfl (pc2 := 37) rfl ?_
  refine e_aload_n dX12_init_37 0 rfl rfl (pc2 := 38) rfl ?_
  refine e_bipush (x := 12) dX12_init_38 (by decide) (pc2 := 40) rfl ?_
  refine e_newL (m0 := 12) dX12_init_40 (by decide) (by decide) (by decide) (TG_t1 103 (by decide +kernel) rfl) rfl hb_142_105 ⟨by decide, by decide, by decide⟩ (by simp [okr]) (by simp [okr]) (pc2 := 42) rfl ?_
  refine e_putRF fl_X12_23 dX12_init_42 ⟨by decide, by decide, rfl⟩ fn_11_13 rfl rc_11 frc_11_13 (by decide) (h2 := H_143) rfl (pc2 := 45) rfl ?_
  refine e_aload_n dX12_init_45 0 rfl rfl (pc2 := 46) rfl ?_
  refine e_bipush (x := 12) dX12_init_46 (by decide) (pc2 := 48) rfl ?_
  refine e_newI (m0 := 12) dX12_init_48 (by decide) (by decide) (by decide) (TG_t1 58 (by decide +kernel) rfl) rfl hb_143_106 ⟨by decide, by decide, by decide⟩ (by simp [okr]) (by simp [okr]) (pc2 := 50) rfl ?_
  refine e_putRF fl_X12_26 dX12_init_50 ⟨by decide, by decide, rfl⟩ fn_11_14 rfl rc_11 frc_11_14 (by decide) (h2 := H_144) rfl (pc2 := 53) rfl ?_
  refine e_aload_n dX12_init_53 0 rfl rfl (pc2 := 54) rfl ?_
  refine e_bipush (x := 10) dX12_init_54 (by decide) (pc2 := 56) rfl ?_
  refine e_newI (m0 := 10) dX12_init_56 (by decide) (by decide) (by decide) (TG_t1 58 (by decide +kernel) rfl) rfl hb_144_107 ⟨by decide, by decide, by decide⟩ (by simp [okr]) (by simp [okr]) (pc2 := 58) rfl ?_
  refine e_putRF fl_X12_29 dX12_init_58 ⟨by decide, by decide, rfl⟩ fn_11_15 rfl rc_11 frc_11_15 (by decide) (h2 := H_145) rfl (pc2 := 61) rfl ?_
  refine e_aload_n dX12_init_61 0 rfl rfl (pc2 := 62) rfl ?_
  refine e_bipush (x := 10) dX12_init_62 (by decide) (pc2 := 64) rfl ?_
  refine e_newI (m0 := 10) dX12_init_64 (by decide) (by decide) (by decide) (TG_t1 58 (by decide +kernel) rfl) rfl hb_145_108 ⟨by decide, by decide, by decide⟩ (by simp [okr]) (by simp [okr]) (pc2 := 66) rfl ?_
  refine e_putRF fl_X12_32 dX12_init_66 ⟨by decide, by decide, rfl⟩ fn_11_16 rfl rc_11 frc_11_16 (by decide) (h2 := H_146) rfl (pc2 := 69) rfl ?_
  refine e_aload_n dX12_init_69 0 rfl rfl (pc2 := 70) rfl ?_
  refine e_bipush (x := 10) dX12_init_70 (by decide) (pc2 := 72) rfl ?_
  refine e_newI (m0 := 10) dX12_init_72 (by decide) (by decide) (by decide) (TG_t1 58 (by decide +kernel) rfl) rfl hb_146_109 ⟨by decide, by decide, by decide⟩ (by simp [okr]) (by simp [okr]) (pc2 := 74) rfl ?_
  refine e_putRF fl_X12_35 dX12_init_74 ⟨by decide, by decide, rfl⟩ fn_11_17 rfl rc_11 frc_11_17 (by decide) (h2 := H_147) rfl (pc2 := 77) rfl ?_
  refine e_aload_n dX12_init_77 0 rfl rfl (pc2 := 78) rfl ?_
  refine e_bipush (x := 10) dX12_init_78 (by decide) (pc2 := 80) rfl ?_
  refine e_newI (m0 := 10) dX12_init_80 (by decide) (by decide) (by decide) (TG_t1 58 (by decide +kernel) rfl) rfl hb_147_110 ⟨by decide, by decide, by decide⟩ (by simp [okr]) (by simp [okr]) (pc2 := 82) rfl ?_
  refine e_putRF fl_X12_38 dX12_init_82 ⟨by decide, by decide, rfl⟩ fn_11_18 rfl rc_11 frc_11_18 (by decide) (h2 := H_148) rfl (pc2 := 85) rfl ?_
  refine e_aload_n dX12_init_85 0 rfl rfl (pc2 := 86) rfl ?_
  refine e_bipush (x := 10) dX12_init_86 (by decide) (pc2 := 88) rfl ?_
  refine e_newI (m0 := 10) dX12_init_88 (by decide) (by decide) (by decide) (TG_t1 58 (by decide +kernel) rfl) rfl hb_148_111 ⟨by decide, by decide, by decide⟩ (by simp [okr]) (by simp [okr]) (pc2 := 90) rfl ?_
  refine e_putRF fl_X12_41 dX12_init_90 ⟨by decide, by decide, rfl⟩ fn_11_19 rfl rc_11 frc_11_19 (by decide) (h2 := H_149) rfl (pc2 := 93) rfl ?_
  refine e_aload_n dX12_init_93 0 rfl rfl (pc2 := 94) rfl ?_
  refine e_bipush (x := 12) dX12_init_94 (by decide) (pc2 := 96) rfl ?_
  refine e_newI (m0 := 12) dX12_init_96 (by decide) (by decide) (by decide) (TG_t1 58 (by decide +kernel) rfl) rfl hb_149_112 ⟨by decide, by decide, by decide⟩ (by simp [okr]) (by simp [okr]) (pc2 := 98) rfl ?_
  refine e_putRF fl_X12_44 dX12_init_98 ⟨by decide, by decide, rfl⟩ fn_11_20 rfl rc_11 frc_11_20 (by decide) (h2 := H_150) rfl (pc2 := 101) rfl ?_
  refine e_aload_n dX12_init_101 0 rfl rfl (pc2 := 102) rfl ?_
  refine e_bipush (x := 12) dX12_init_102 (by decide) (pc2 := 104) rfl ?_
  refine e_newI (m0 := 12) dX12_init_104 (by decide) (by decide) (by decide) (TG_t1 58 (by decide +kernel) rfl) rfl hb_150_113 ⟨by decide, by decide, by decide⟩ (by simp [okr]) (by simp [okr]) (pc2 := 106) rfl ?_
  refine e_putRF fl_X12_47 dX12_init_106 ⟨by decide, by decide, rfl⟩ fn_11_21 rfl rc_11 frc_11_21 (by decide) (h2 := H_151) rfl (pc2 := 109) rfl ?_
  refine e_aload_n dX12_init_109 0 rfl rfl (pc2 := 110) rfl ?_
  refine e_bipush (x := 12) dX12_init_110 (by decide) (pc2 := 112) rfl ?_
  refine e_newI (m0 := 12) dX12_init_112 (by decide) (by decide) (by decide) (TG_t1 58 (by decide +kernel) rfl) rfl hb_151_114 ⟨by decide, by decide, by decide⟩ (by simp [okr]) (by simp [okr]) (pc2 := 114) rfl ?_
  refine e_putRF fl_X12_50 dX12_init_114 ⟨by decide, by decide, rfl⟩ fn_11_22 rfl rc_11 frc_11_22 (by decide) (h2 := H_152) rfl (pc2 := 117) rfl ?_
  refine e_aload_n dX12_init_117 0 rfl rfl (pc2 := 118) rfl ?_
  refine e_bipush (x := 12) dX12_init_118 (by decide) (pc2 := 120) rfl ?_
  refine e_newI (m0 := 12) dX12_init_120 (by decide) (by decide) (by decide) (TG_t1 58 (by decide +kernel) rfl) rfl hb_152_115 ⟨by decide, by decide, by decide⟩ (by simp [okr]) (by simp [okr]) (pc2 := 122) rfl ?_
  refine e_putRF fl_X12_53 dX12_init_122 ⟨by decide, by decide, rfl⟩ fn_11_23 rfl rc_11 frc_11_23 (by decide) (h2 := H_153) rfl (pc2 := 125) rfl ?_
  refine e_aload_n dX12_init_125 0 rfl rfl (pc2 := 126) rfl ?_
  refine e_bipush (x := 36) dX12_init_126 (by decide) (pc2 := 128) rfl ?_
  refine e_newI (m0 := 36) dX12_init_128 (by decide) (by decide) (by decide) (TG_t1 58 (by decide +kernel) rfl) rfl hb_153_116 ⟨by decide, by decide, by decide⟩ (by simp [okr]) (by simp [okr]) (pc2 := 130) rfl ?_
  refine e_putRF fl_X12_56 dX12_init_130 ⟨by decide, by decide, rfl⟩ fn_11_24 rfl rc_11 frc_11_24 (by decide) (h2 := H_154) rfl (pc2 := 133) rfl ?_
  refine e_aload_n dX12_init_133 0 rfl rfl (pc2 := 134) rfl ?_
  refine e_bipush (x := 12) dX12_init_134 (by decide) (pc2 := 136) rfl ?_
  refine e_newI (m0 := 12) dX12_init_136 (by decide) (by decide) (by decide) (TG_t1 58 (by decide +kernel) rfl) rfl hb_154_117 ⟨by decide, by decide, by decide⟩ (by simp [okr]) (by simp [okr]) (pc2 := 138) rfl ?_
  refine e_putRF fl_X12_59 dX12_init_138 ⟨by decide, by decide, rfl⟩ fn_11_25 rfl rc_11 frc_11_25 (by decide) (h2 := H_155) rfl (pc2 := 141) rfl ?_
  refine e_aload_n dX12_init_141 0 rfl rfl (pc2 := 142) rfl ?_
  refine e_bipush (x := 8) dX12_init_142 (by decide) (pc2 := 144) rfl ?_
  refine e_newI (m0 := 8) dX12_init_144 (by decide) (by decide) (by decide) (TG_t1 58 (by decide +kernel) rfl) rfl hb_155_118 ⟨by decide, by decide, by decide⟩ (by simp [okr]) (by simp [okr]) (pc2 := 146) rfl ?_
  refine e_putRF fl_X12_62 dX12_init_146 ⟨by decide, by decide, rfl⟩ fn_11_26 rfl rc_11 frc_11_26 (by decide) (h2 := H_156) rfl (pc2 := 149) rfl ?_
  refine e_aload_n dX12_init_149 0 rfl rfl (pc2 := 150) rfl ?_
  refine e_iconst (x := 2) dX12_init_150 (by decide) (pc2 := 151) rfl ?_
  refine e_newI (m0 := 2) dX12_init_151 (by decide) (by decide) (by decide) (TG_t1 58 (by decide +kernel) rfl) rfl hb_156_119 ⟨by decide, by decide, by decide⟩ (by simp [okr]) (by simp [okr]) (pc2 := 153) rfl ?_
  refine e_putRF fl_X12_65 dX12_init_153 ⟨by decide, by decide, rfl⟩ fn_11_27 rfl rc_11 frc_11_27 (by decide) (h2 := H_157) rfl (pc2 := 156) rfl ?_
  refine e_aload_n dX12_init_156 0 rfl rfl (pc2 := 157) rfl ?_
  refine e_iconst (x := 2) dX12_init_157 (by decide) (pc2 := 158) rfl ?_
  refine e_newI (m0 := 2) dX12_init_158 (by decide) (by decide) (by decide) (TG_t1 58 (by decide +kernel) rfl) rfl hb_157_120 ⟨by decide, by decide, by decide⟩ (by simp [okr]) (by simp [okr]) (pc2 := 160) rfl ?_
  refine e_putRF fl_X12_68 dX12_init_160 ⟨by decide, by decide, rfl⟩ fn_11_28 rfl rc_11 frc_11_28 (by decide) (h2 := H_158) rfl (pc2 := 163) rfl ?_
  refine e_aload_n dX12_init_163 0 rfl rfl (pc2 := 164) rfl ?_
  refine e_sipush (x := 2000) dX12_init_164 (by decide) (pc2 := 167) rfl ?_
  refine e_newI (m0 := 2000) dX12_init_167 (by decide) (by decide) (by decide) (TG_t1 58 (by decide +kernel) rfl) rfl hb_158_121 ⟨by decide, by decide, by decide⟩ (by simp [okr]) (by simp [okr]) (pc2 := 169) rfl ?_
  refine e_putRF fl_X12_71 dX12_init_169 ⟨by decide, by decide, rfl⟩ fn_11_29 rfl rc_11 frc_11_29 (by decide) (h2 := H_159) rfl (pc2 := 172) rfl ?_
  refine e_aload_n dX12_init_172 0 rfl rfl (pc2 := 173) rfl ?_
  refine e_bipush (x := 7) dX12_init_173 (by decide) (pc2 := 175) rfl ?_
  refine e_newI (m0 := 7) dX12_init_175 (by decide) (by decide) (by decide) (TG_t1 58 (by decide +kernel) rfl) rfl hb_159_122 ⟨by decide, by decide, by decide⟩ (by simp [okr]) (by simp [okr]) (pc2 := 177) rfl ?_
  refine e_putRF fl_X12_74 dX12_init_177 ⟨by decide, by decide, rfl⟩ fn_11_32 rfl rc_11 frc_11_32 (by decide) (h2 := H_160) rfl (pc2 := 180) rfl ?_
  refine e_aload_n dX12_init_180 0 rfl rfl (pc2 := 181) rfl ?_
  refine e_bipush (x := 7) dX12_init_181 (by decide) (pc2 := 183) rfl ?_
  refine e_newZ (m0 := 7) dX12_init_183 (by decide) (by decide) (by decide) (TG_t7 40 (by decide +kernel) rfl) rfl hb_160_123 ⟨by decide, by decide, by decide⟩ (by simp [okr]) (by simp [okr]) (pc2 := 185) rfl ?_
  refine e_putRF fl_X12_77 dX12_init_185 ⟨by decide, by decide, rfl⟩ fn_11_33 rfl rc_11 frc_11_33 (by decide) (h2 := H_161) rfl (pc2 := 188) rfl ?_
  refine e_aload_n dX12_init_188 0 rfl rfl (pc2 := 189) rfl ?_
  refine e_bipush (x := 7) dX12_init_189 (by decide) (pc2 := 191) rfl ?_
  refine e_newI (m0 := 7) dX12_init_191 (by decide) (by decide) (by decide) (TG_t1 58 (by decide +kernel) rfl) rfl hb_161_124 ⟨by decide, by decide, by decide⟩ (by simp [okr]) (by simp [okr]) (pc2 := 193) rfl ?_
  refine e_putRF fl_X12_81 dX12_init_193 ⟨by decide, by decide, rfl⟩ fn_11_34 rfl rc_11 frc_11_34 (by decide) (h2 := H_162) rfl (pc2 := 196) rfl ?_
  refine e_aload_n dX12_init_196 0 rfl rfl (pc2 := 197) rfl ?_
  refine e_bipush (x := 7) dX12_init_197 (by decide) (pc2 := 199) rfl ?_
  refine e_newI (m0 := 7) dX12_init_199 (by decide) (by decide) (by decide) (TG_t1 58 (by decide +kernel) rfl) rfl hb_162_125 ⟨by decide, by decide, by decide⟩ (by simp [okr]) (by simp [okr]) (pc2 := 201) rfl ?_
  refine e_putRF fl_X12_84 dX12_init_201 ⟨by decide, by decide, rfl⟩ fn_11_35 rfl rc_11 frc_11_35 (by decide) (h2 := H_163) rfl (pc2 := 204) rfl ?_
  refine e_aload_n dX12_init_204 0 rfl rfl (pc2 := 205) rfl ?_
  refine e_bipush (x := 7) dX12_init_205 (by decide) (pc2 := 207) rfl ?_
  refine e_newI (m0 := 7) dX12_init_207 (by decide) (by decide) (by decide) (TG_t1 58 (by decide +kernel) rfl) rfl hb_163_126 ⟨by decide, by decide, by decide⟩ (by simp [okr]) (by simp [okr]) (pc2 := 209) rfl ?_
  refine e_putRF fl_X12_87 dX12_init_209 ⟨by decide, by decide, rfl⟩ fn_11_36 rfl rc_11 frc_11_36 (by decide) (h2 := H_164) rfl (pc2 := 212) rfl ?_
  refine e_aload_n dX12_init_212 0 rfl rfl (pc2 := 213) rfl ?_
  refine e_bipush (x := 7) dX12_init_213 (by decide) (pc2 := 215) rfl ?_
  refine e_newI (m0 := 7) dX12_init_215 (by decide) (by decide) (by decide) (TG_t1 58 (by decide +kernel) rfl) rfl hb_164_127 ⟨by decide, by decide, by decide⟩ (by simp [okr]) (by simp [okr]) (pc2 := 217) rfl ?_
  refine e_putRF fl_X12_90 dX12_init_217 ⟨by decide, by decide, rfl⟩ fn_11_37 rfl rc_11 frc_11_37 (by decide) (h2 := H_165) rfl (pc2 := 220) rfl ?_
  refine e_aload_n dX12_init_220 0 rfl rfl (pc2 := 221) rfl ?_
  refine e_bipush (x := 7) dX12_init_221 (by decide) (pc2 := 223) rfl ?_
  refine e_newI (m0 := 7) dX12_init_223 (by decide) (by decide) (by decide) (TG_t1 58 (by decide +kernel) rfl) rfl hb_165_128 ⟨by decide, by decide, by decide⟩ (by simp [okr]) (by simp [okr]) (pc2 := 225) rfl ?_
  refine e_putRF fl_X12_93 dX12_init_225 ⟨by decide, by decide, rfl⟩ fn_11_38 rfl rc_11 frc_11_38 (by decide) (h2 := H_166) rfl (pc2 := 228) rfl ?_
  refine e_aload_n dX12_init_228 0 rfl rfl (pc2 := 229) rfl ?_
  refine e_bipush (x := 7) dX12_init_229 (by decide) (pc2 := 231) rfl ?_
  refine e_newI (m0 := 7) dX12_init_231 (by decide) (by decide) (by decide) (TG_t1 58 (by decide +kernel) rfl) rfl hb_166_129 ⟨by decide, by decide, by decide⟩ (by simp [okr]) (by simp [okr]) (pc2 := 233) rfl ?_
  refine e_putRF fl_X12_96 dX12_init_233 ⟨by decide, by decide, rfl⟩ fn_11_39 rfl rc_11 frc_11_39 (by decide) (h2 := H_167) rfl (pc2 := 236) rfl ?_
  refine e_aload_n dX12_init_236 0 rfl rfl (pc2 := 237) rfl ?_
  refine e_bipush (x := 7) dX12_init_237 (by decide) (pc2 := 239) rfl ?_
  refine e_newI (m0 := 7) dX12_init_239 (by decide) (by decide) (by decide) (TG_t1 58 (by decide +kernel) rfl) rfl hb_167_130 ⟨by decide, by decide, by decide⟩ (by simp [okr]) (by simp [okr]) (pc2 := 241) rfl ?_
  refine e_putRF fl_X12_99 dX12_init_241 ⟨by decide, by decide, rfl⟩ fn_11_40 rfl rc_11 frc_11_40 (by decide) (h2 := H_168) rfl (pc2 := 244) rfl ?_
  refine e_aload_n dX12_init_244 0 rfl rfl (pc2 := 245) rfl ?_
  refine e_bipush (x := 7) dX12_init_245 (by decide) (pc2 := 247) rfl ?_
  refine e_newI (m0 := 7) dX12_init_247 (by decide) (by decide) (by decide) (TG_t1 58 (by decide +kernel) rfl) rfl hb_168_131 ⟨by decide, by decide, by decide⟩ (by simp [okr]) (by simp [okr]) (pc2 := 249) rfl ?_
  refine e_putRF fl_X12_102 dX12_init_249 ⟨by decide, by decide, rfl⟩ fn_11_41 rfl rc_11 frc_11_41 (by decide) (h2 := H_169) rfl (pc2 := 252) rfl ?_
  refine e_aload_n dX12_init_252 0 rfl rfl (pc2 := 253) rfl ?_
  refine e_bipush (x := 7) dX12_init_253 (by decide) (pc2 := 255) rfl ?_
  refine e_newI (m0 := 7) dX12_init_255 (by decide) (by decide) (by decide) (TG_t1 58 (by decide +kernel) rfl) rfl hb_169_132 ⟨by decide, by decide, by decide⟩ (by simp [okr]) (by simp [okr]) (pc2 := 257) rfl ?_
  refine e_putRF fl_X12_105 dX12_init_257 ⟨by decide, by decide, rfl⟩ fn_11_42 rfl rc_11 frc_11_42 (by decide) (h2 := H_170) rfl (pc2 := 260) rfl ?_
  refine e_aload_n dX12_init_260 0 rfl rfl (pc2 := 261) rfl ?_
  refine e_bipush (x := 20) dX12_init_261 (by decide) (pc2 := 263) rfl ?_
  refine e_newI (m0 := 20) dX12_init_263 (by decide) (by decide) (by decide) (TG_t1 58 (by decide +kernel) rfl) rfl hb_170_133 ⟨by decide, by decide, by decide⟩ (by simp [okr]) (by simp [okr]) (pc2 := 265) rfl ?_
  refine e_putRF fl_X12_108 dX12_init_265 ⟨by decide, by decide, rfl⟩ fn_11_43 rfl rc_11 frc_11_43 (by decide) (h2 := H_171) rfl (pc2 := 268) rfl ?_
  refine e_aload_n dX12_init_268 0 rfl rfl (pc2 := 269) rfl ?_
  refine e_bipush (x := 6) dX12_init_269 (by decide) (pc2 := 271) rfl ?_
  refine e_newI (m0 := 6) dX12_init_271 (by decide) (by decide) (by decide) (TG_t1 58 (by decide +kernel) rfl) rfl hb_171_134 ⟨by decide, by decide, by decide⟩ (by simp [okr]) (by simp [okr]) (pc2 := 273) rfl ?_
  refine e_putRF fl_X12_111 dX12_init_273 ⟨by decide, by decide, rfl⟩ fn_11_45 rfl rc_11 frc_11_45 (by decide) (h2 := H_172) rfl (pc2 := 276) rfl ?_
  refine e_aload_n dX12_init_276 0 rfl rfl (pc2 := 277) rfl ?_
  refine e_sipush (x := 240) dX12_init_277 (by decide) (pc2 := 280) rfl ?_
  refine e_newI (m0 := 240) dX12_init_280 (by decide) (by decide) (by decide) (TG_t1 58 (by decide +kernel) rfl) rfl hb_172_135 ⟨by decide, by decide, by decide⟩ (by simp [okr]) (by simp [okr]) (pc2 := 282) rfl ?_
  refine e_putRF fl_X12_114 dX12_init_282 ⟨by decide, by decide, rfl⟩ fn_11_46 rfl rc_11 frc_11_46 (by decide) (h2 := H_173) rfl (pc2 := 285) rfl ?_
  refine e_aload_n dX12_init_285 0 rfl rfl (pc2 := 286) rfl ?_
  refine e_sipush (x := 240) dX12_init_286 (by decide) (pc2 := 289) rfl ?_
  refine e_newI (m0 := 240) dX12_init_289 (by decide) (by decide) (by decide) (TG_t1 58 (by decide +kernel) rfl) rfl hb_173_136 ⟨by decide, by decide, by decide⟩ (by simp [okr]) (by simp [okr]) (pc2 := 291) rfl ?_
  refine e_putRF fl_X12_117 dX12_init_291 ⟨by decide, by decide, rfl⟩ fn_11_47 rfl rc_11 frc_11_47 (by decide) (h2 := H_174) rfl (pc2 := 294) rfl ?_
  refine e_aload_n dX12_init_294 0 rfl rfl (pc2 := 295) rfl ?_
  refine e_sipush (x := 240) dX12_init_295 (by decide) (pc2 := 298) rfl ?_
  refine e_newI (m0 := 240) dX12_init_298 (by decide) (by decide) (by decide) (TG_t1 58 (by decide +kernel) rfl) rfl hb_174_137 ⟨by decide, by decide, by decide⟩ (by simp [okr]) (by simp [okr]) (pc2 := 300) rfl ?_
  refine e_putRF fl_X12_120 dX12_init_300 ⟨by decide, by decide, rfl⟩ fn_11_48 rfl rc_11 frc_11_48 (by decide) (h2 := H_175) rfl (pc2 := 303) rfl ?_
  refine e_aload_n dX12_init_303 0 rfl rfl (pc2 := 304) rfl ?_
  refine e_iconst (x := 5) dX12_init_304 (by decide) (pc2 := 305) rfl ?_
  refine e_newI (m0 := 5) dX12_init_305 (by decide) (by decide) (by decide) (TG_t1 58 (by decide +kernel) rfl) rfl hb_175_138 ⟨by decide, by decide, by decide⟩ (by simp [okr]) (by simp [okr]) (pc2 := 307) rfl ?_
  refine e_putRF fl_X12_123 dX12_init_307 ⟨by decide, by decide, rfl⟩ fn_11_49 rfl rc_11 frc_11_49 (by decide) (h2 := H_176) rfl (pc2 := 310) rfl ?_
  refine e_aload_n dX12_init_310 0 rfl rfl (pc2 := 311) rfl ?_
  refine e_bipush (x := 50) dX12_init_311 (by decide) (pc2 := 313) rfl ?_
  refine e_newI (m0 := 50) dX12_init_313 (by decide) (by decide) (by decide) (TG_t1 58 (by decide +kernel) rfl) rfl hb_176_139 ⟨by decide, by decide, by decide⟩ (by simp [okr]) (by simp [okr]) (pc2 := 315) rfl ?_
  refine e_putRF fl_X12_126 dX12_init_315 ⟨by decide, by decide, rfl⟩ fn_11_50 rfl rc_11 frc_11_50 (by decide) (h2 := H_177) rfl (pc2 := 318) rfl ?_
  refine e_aload_n dX12_init_318 0 rfl rfl (pc2 := 319) rfl ?_
  refine e_bipush (x := 50) dX12_init_319 (by decide) (pc2 := 321) rfl ?_
  refine e_newI (m0 := 50) dX12_init_321 (by decide) (by decide) (by decide) (TG_t1 58 (by decide +kernel) rfl) rfl hb_177_140 ⟨by decide, by decide, by decide⟩ (by simp [okr]) (by simp [okr]) (pc2 := 323) rfl ?_
  refine e_putRF fl_X12_129 dX12_init_323 ⟨by decide, by decide, rfl⟩ fn_11_51 rfl rc_11 frc_11_51 (by decide) (h2 := H_178) rfl (pc2 := 326) rfl ?_
  refine e_aload_n dX12_init_326 0 rfl rfl (pc2 := 327) rfl ?_
  refine e_iconst (x := 5) dX12_init_327 (by decide) (pc2 := 328) rfl ?_
  refine e_newI (m0 := 5) dX12_init_328 (by decide) (by decide) (by decide) (TG_t1 58 (by decide +kernel) rfl) rfl hb_178_141 ⟨by decide, by decide, by decide⟩ (by simp [okr]) (by simp [okr]) (pc2 := 330) rfl ?_
  refine e_putRF fl_X12_132 dX12_init_330 ⟨by decide, by decide, rfl⟩ fn_11_52 rfl rc_11 frc_11_52 (by decide) (h2 := H_179) rfl (pc2 := 333) rfl ?_
  refine e_aload_n dX12_init_333 0 rfl rfl (pc2 := 334) rfl ?_
  refine e_bipush (x := 30) dX12_init_334 (by decide) (pc2 := 336) rfl ?_
  refine e_newI (m0 := 30) dX12_init_336 (by decide) (by decide) (by decide) (TG_t1 58 (by decide +kernel) rfl) rfl hb_179_142 ⟨by decide, by decide, by decide⟩ (by simp [okr]) (by simp [okr]) (pc2 := 338) rfl ?_
  refine e_putRF fl_X12_135 dX12_init_338 ⟨by decide, by decide, rfl⟩ fn_11_53 rfl rc_11 frc_11_53 (by decide) (h2 := H_180) rfl (pc2 := 341) rfl ?_
  refine e_aload_n dX12_init_341 0 rfl rfl (pc2 := 342) rfl ?_
  refine e_bipush (x := 30) dX12_init_342 (by decide) (pc2 := 344) rfl ?_
  refine e_newI (m0 := 30) dX12_init_344 (by decide) (by decide) (by decide) (TG_t1 58 (by decide +kernel) rfl) rfl hb_180_143 ⟨by decide, by decide, by decide⟩ (by simp [okr]) (by simp [okr]) (pc2 := 346) rfl ?_
  refine e_putRF fl_X12_138 dX12_init_346 ⟨by decide, by decide, rfl⟩ fn_11_54 rfl rc_11 frc_11_54 (by decide) (h2 := H_181) rfl (pc2 := 349) rfl ?_
  refine e_aload_n dX12_init_349 0 rfl rfl (pc2 := 350) rfl ?_
  refine e_bipush (x := 9) dX12_init_350 (by decide) (pc2 := 352) rfl ?_
  refine e_newI (m0 := 9) dX12_init_352 (by decide) (by decide) (by decide) (TG_t1 58 (by decide +kernel) rfl) rfl hb_181_144 ⟨by decide, by decide, by decide⟩ (by simp [okr]) (by simp [okr]) (pc2 := 354) rfl ?_
  refine e_putRF fl_X12_141 dX12_init_354 ⟨by decide, by decide, rfl⟩ fn_11_55 rfl rc_11 frc_11_55 (by decide) (h2 := H_182) rfl (pc2 := 357) rfl ?_
  refine e_aload_n dX12_init_357 0 rfl rfl (pc2 := 358) rfl ?_
  refine e_bipush (x := 18) dX12_init_358 (by decide) (pc2 := 360) rfl ?_
  refine e_newI (m0 := 18) dX12_init_360 (by decide) (by decide) (by decide) (TG_t1 58 (by decide +kernel) rfl) rfl hb_182_145 ⟨by decide, by decide, by decide⟩ (by simp [okr]) (by simp [okr]) (pc2 := 362) rfl ?_
  refine e_putRF fl_X12_144 dX12_init_362 ⟨by decide, by decide, rfl⟩ fn_11_56 rfl rc_11 frc_11_56 (by decide) (h2 := H_183) rfl (pc2 := 365) rfl ?_
  refine e_aload_n dX12_init_365 0 rfl rfl (pc2 := 366) rfl ?_
  refine e_bipush (x := 36) dX12_init_366 (by decide) (pc2 := 368) rfl ?_
  refine e_newI (m0 := 36) dX12_init_368 (by decide) (by decide) (by decide) (TG_t1 58 (by decide +kernel) rfl) rfl hb_183_146 ⟨by decide, by decide, by decide⟩ (by simp [okr]) (by simp [okr]) (pc2 := 370) rfl ?_
  refine e_putRF fl_X12_147 dX12_init_370 ⟨by decide, by decide, rfl⟩ fn_11_57 rfl rc_11 frc_11_57 (by decide) (h2 := H_184) rfl (pc2 := 373) rfl ?_
  refine e_aload_n dX12_init_373 0 rfl rfl (pc2 := 374) rfl ?_
  refine e_sipush (x := 144) dX12_init_374 (by decide) (pc2 := 377) rfl ?_
  refine e_newI (m0 := 144) dX12_init_377 (by decide) (by decide) (by decide) (TG_t1 58 (by decide +kernel) rfl) rfl hb_184_147 ⟨by decide, by decide, by decide⟩ (by simp [okr]) (by simp [okr]) (pc2 := 379) rfl ?_
  refine e_putRF fl_X12_150 dX12_init_379 ⟨by decide, by decide, rfl⟩ fn_11_58 rfl rc_11 frc_11_58 (by decide) (h2 := H_185) rfl (pc2 := 382) rfl ?_
  refine e_aload_n dX12_init_382 0 rfl rfl (pc2 := 383) rfl ?_
  refine e_iconst (x := 4) dX12_init_383 (by decide) (pc2 := 384) rfl ?_
  refine e_newZ (m0 := 4) dX12_init_384 (by decide) (by decide) (by decide) (TG_t7 40 (by decide +kernel) rfl) rfl hb_185_148 ⟨by decide, by decide, by decide⟩ (by simp [okr]) (by simp [okr]) (pc2 := 386) rfl ?_
  refine e_putRF fl_X12_153 dX12_init_386 ⟨by decide, by decide, rfl⟩ fn_11_59 rfl rc_11 frc_11_59 (by decide) (h2 := H_186) rfl (pc2 := 389) rfl ?_
  refine e_aload_n dX12_init_389 0 rfl rfl (pc2 := 390) rfl ?_
  refine e_iconst (x := (-1)) dX12_init_390 (by decide) (pc2 := 391) rfl ?_
  refine e_putI fl_X12_156 dX12_init_391 ⟨by decide, by decide, rfl⟩ fn_11_62 (h2 := H_187) rfl (pc2 := 394) rfl ?_
  refine e_aload_n dX12_init_394 0 rfl rfl (pc2 := 395) rfl ?_
  refine e_iconst (x := (-1)) dX12_init_395 (by decide) (pc2 := 396) rfl ?_
  refine e_putI fl_X12_160 dX12_init_396 ⟨by decide, by decide, rfl⟩ fn_11_64 (h2 := H_188) rfl (pc2 := 399) rfl ?_
  refine e_aload_n dX12_init_399 0 rfl rfl (pc2 := 400) rfl ?_
  refine e_bipush (x := 6) dX12_init_400 (by decide) (pc2 := 402) rfl ?_
  refine e_newI (m0 := 6) dX12_init_402 (by decide) (by decide) (by decide) (TG_t1 58 (by decide +kernel) rfl) rfl hb_188_149 ⟨by decide, by decide, by decide⟩ (by simp [okr]) (by simp [okr]) (pc2 := 404) rfl ?_
  refine e_putRF fl_X12_163 dX12_init_404 ⟨by decide, by decide, rfl⟩ fn_11_67 rfl rc_11 frc_11_67 (by decide) (h2 := H_189) rfl (pc2 := 407) rfl ?_
  refine e_aload_n dX12_init_407 0 rfl rfl (pc2 := 408) rfl ?_
  refine e_bipush (x := 6) dX12_init_408 (by decide) (pc2 := 410) rfl ?_
  refine e_newI (m0 := 6) dX12_init_410 (by decide) (by decide) (by decide) (TG_t1 58 (by decide +kernel) rfl) rfl hb_189_150 ⟨by decide, by decide, by decide⟩ (by simp [okr]) (by simp [okr]) (pc2 := 412) rfl ?_
  refine e_putRF fl_X12_166 dX12_init_412 ⟨by decide, by decide, rfl⟩ fn_11_68 rfl rc_11 frc_11_68 (by decide) (h2 := H_190) rfl (pc2 := 415) rfl ?_
  refine e_aload_n dX12_init_415 0 rfl rfl (pc2 := 416) rfl ?_
  refine e_bipush (x := 6) dX12_init_416 (by decide) (pc2 := 418) rfl ?_
  refine e_newI (m0 := 6) dX12_init_418 (by decide) (by decide) (by decide) (TG_t1 58 (by decide +kernel) rfl) rfl hb_190_151 ⟨by decide, by decide, by decide⟩ (by simp [okr]) (by simp [okr]) (pc2 := 420) rfl ?_
  refine e_putRF fl_X12_169 dX12_init_420 ⟨by decide, by decide, rfl⟩ fn_11_69 rfl rc_11 frc_11_69 (by decide) (h2 := H_191) rfl (pc2 := 423) rfl ?_
  refine e_aload_n dX12_init_423 0 rfl rfl (pc2 := 424) rfl ?_
  refine e_bipush (x := 6) dX12_init_424 (by decide) (pc2 := 426) rfl ?_
  refine e_newI (m0 := 6) dX12_init_426 (by decide) (by decide) (by decide) (TG_t1 58 (by decide +kernel) rfl) rfl hb_191_152 ⟨by decide, by decide, by decide⟩ (by simp [okr]) (by simp [okr]) (pc2 := 428) rfl ?_
  refine e_putRF fl_X12_172 dX12_init_428 ⟨by decide, by decide, rfl⟩ fn_11_70 rfl rc_11 frc_11_70 (by decide) (h2 := H_192) rfl (pc2 := 431) rfl ?_
  refine e_aload_n dX12_init_431 0 rfl rfl (pc2 := 432) rfl ?_
  refine e_bipush (x := 6) dX12_init_432 (by decide) (pc2 := 434) rfl ?_
  refine e_newI (m0 := 6) dX12_init_434 (by decide) (by decide) (by decide) (TG_t1 58 (by decide +kernel) rfl) rfl hb_192_153 ⟨by decide, by decide, by decide⟩ (by simp [okr]) (by simp [okr]) (pc2 := 436) rfl ?_
  refine e_putRF fl_X12_175 dX12_init_436 ⟨by decide, by decide, rfl⟩ fn_11_71 rfl rc_11 frc_11_71 (by decide) (h2 := H_193) rfl (pc2 := 439) rfl ?_
  refine e_aload_n dX12_init_439 0 rfl rfl (pc2 := 440) rfl ?_
  refine e_bipush (x := 6) dX12_init_440 (by decide) (pc2 := 442) rfl ?_
  refine e_newZ (m0 := 6) dX12_init_442 (by decide) (by decide) (by decide) (TG_t7 40 (by decide +kernel) rfl) rfl hb_193_154 ⟨by decide, by decide, by decide⟩ (by simp [okr]) (by simp [okr]) (pc2 := 444) rfl ?_
  refine e_putRF fl_X12_178 dX12_init_444 ⟨by decide, by decide, rfl⟩ fn_11_72 rfl rc_11 frc_11_72 (by decide) (h2 := H_194) rfl (pc2 := 447) rfl ?_
  refine e_aload_n dX12_init_447 0 rfl rfl (pc2 := 448) rfl ?_
  refine e_iconst (x := 2) dX12_init_448 (by decide) (pc2 := 449) rfl ?_
  refine e_newI (m0 := 2) dX12_init_449 (by decide) (by decide) (by decide) (TG_t1 58 (by decide +kernel) rfl) rfl hb_194_155 ⟨by decide, by decide, by decide⟩ (by simp [okr]) (by simp [okr]) (pc2 := 451) rfl ?_
  refine e_putRF fl_X12_181 dX12_init_451 ⟨by decide, by decide, rfl⟩ fn_11_73 rfl rc_11 frc_11_73 (by decide) (h2 := H_195) rfl (pc2 := 454) rfl ?_
  refine e_aload_n dX12_init_454 0 rfl rfl (pc2 := 455) rfl ?_
  refine e_sipush (x := 384) dX12_init_455 (by decide) (pc2 := 458) rfl ?_
  refine e_newI (m0 := 384) dX12_init_458 (by decide) (by decide) (by decide) (TG_t1 58 (by decide +kernel) rfl) rfl hb_195_156 ⟨by decide, by decide, by decide⟩ (by simp [okr]) (by simp [okr]) (pc2 := 460) rfl ?_
  refine e_putRF fl_X12_184 dX12_init_460 ⟨by decide, by decide, rfl⟩ fn_11_76 rfl rc_11 frc_11_76 (by decide) (h2 := H_196) rfl (pc2 := 463) rfl ?_
  refine e_aload_n dX12_init_463 0 rfl rfl (pc2 := 464) rfl ?_
  refine e_iconst (x := 0) dX12_init_464 (by decide) (pc2 := 465) rfl ?_
  refine e_callVn c43_X12_plain dX12_init_465 cv_X12_187 rfl ⟨by decide, by decide, rfl⟩ rc_11 (by decide) (Nat.le_of_ble_eq_true rfl) ⟨by decide, by decide +kernel⟩ rfl (pc2 := 468) rfl ?_
  refine e_aload_n dX12_init_468 0 rfl rfl (pc2 := 469) rfl ?_
  refine e_callVn c44_X12_fresh dX12_init_469 cv_X12_191 rfl ⟨by decide, by decide, rfl⟩ rc_11 (by decide) (Nat.le_of_ble_eq_true rfl) ⟨by decide, by decide +kernel⟩ rfl (pc2 := 472) rfl ?_
  exact e_vret rfl dX12_init_472
