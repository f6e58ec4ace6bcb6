abbrev DDX5_readOnce : Nat := 7
def f_X5_readOnce (v1 : Nat) (v2 : Nat) (s : HS) : Option HS :=
  (if v2 = 1000 then bnd2 (f_X8_takeNumber 60 900 s) fun y21 s22 => ltb (sI s22 v1 0 y21) fun s23 => bnd (f_X8_take 1001 s23) fun s25 => bnd2 (f_X8_takeNumber 1 (s25.1 v1 0) s25) fun y26 s27 => ltb (sI s27 v1 1 y26) fun s28 => some s28 else (if v2 = 1013 then bnd2 (f_X8_takeNumber 1 2 s) fun y18 s19 => ltb (sI s19 v1 2 y18) fun s20 => some s20 else (if v2 = 1014 then bnd2 (f_X8_takeNumber 0 60 s) fun y15 s16 => ltb (sI s16 v1 3 y15) fun s17 => some s17 else (if v2 = 1015 then bnd2 (f_X8_takeNumber 0 99 s) fun y12 s13 => ltb (sI s13 v1 4 y12) fun s14 => some s14 else (if v2 = 1016 then bnd2 (f_X8_takeNumber 1 120 s) fun y9 s10 => ltb (sI s10 v1 5 y9) fun s11 => some s11 else bnd2 (f_X8_takeNumber 1 30 s) fun y6 s7 => ltb (sI s7 v1 6 y6) fun s8 => some s8)))))
set_option maxRecDepth 20000 in
set_option maxHeartbeats 2000000 in
theorem t_X5_readOnce (v1 : Nat) (hv1 : okX4 v1 = true) (v2 : Nat) (hv2 : wob v2 = true) (s : HS) {t : HS} (hf : f_X5_readOnce  v1 v2 s = some t) : Mt DDX5_readOnce miX5_readOnce [.ref 69, .ref v1, rva v2] NF (hp s) none NF (hp t) := by
  refine Mt.of (by decide +kernel) (Nat.le_refl _) (by simp [lg_sl, rva_cat, vc_i, vc_r, vc_l, vc_n]) ?_
  rw [show lv_args 0 [.ref 69, .ref v1, rva v2] = [(0, .ref 69), (1, .ref v1), (2, rva v2)] by simp [lv_args, rva_cat, vc_i, vc_r, vc_l, vc_n]]
  show Ev DDX5_readOnce miX5_readOnce NF none NF (hp t) 0 NF [(0, .ref 69), (1, .ref v1), (2, rva v2)] [] (hp s)
  unfold f_X5_readOnce at hf
  refine e_aload_nQ (w := v2) dX5_readOnce_0 2 rfl rfl (pc2 := 1) rfl ?_
  refine e_getsE (i := 0) (by decide) dX5_readOnce_1 gs_X5_109 (pc2 := 4) rfl ?_
  refine e_acmp_ne (tgt := 52) dX5_readOnce_4 (by decide) (w1 := v2) (w2 := 1000) hv2 (by decide) (pc2 := 7) rfl (fun c1 => ?_) (fun c1 => ?_)
  · have hf := if_f c1 hf
    refine e_aload_nQ (w := v2) dX5_readOnce_52 2 rfl rfl (pc2 := 53) rfl ?_
    refine e_getsE (i := 13) (by decide) dX5_readOnce_53 gs_X5_129 (pc2 := 56) rfl ?_
    refine e_acmp_ne (tgt := 75) dX5_readOnce_56 (by decide) (w1 := v2) (w2 := 1013) hv2 (by decide) (pc2 := 59) rfl (fun c2 => ?_) (fun c2 => ?_)
    · have hf := if_f c2 hf
      refine e_aload_nQ (w := v2) dX5_readOnce_75 2 rfl rfl (pc2 := 76) rfl ?_
      refine e_getsE (i := 14) (by decide) dX5_readOnce_76 gs_X5_135 (pc2 := 79) rfl ?_
      refine e_acmp_ne (tgt := 99) dX5_readOnce_79 (by decide) (w1 := v2) (w2 := 1014) hv2 (by decide) (pc2 := 82) rfl (fun c3 => ?_) (fun c3 => ?_)
      · have hf := if_f c3 hf
        refine e_aload_nQ (w := v2) dX5_readOnce_99 2 rfl rfl (pc2 := 100) rfl ?_
        refine e_getsE (i := 15) (by decide) dX5_readOnce_100 gs_X5_141 (pc2 := 103) rfl ?_
        refine e_acmp_ne (tgt := 123) dX5_readOnce_103 (by decide) (w1 := v2) (w2 := 1015) hv2 (by decide) (pc2 := 106) rfl (fun c4 => ?_) (fun c4 => ?_)
        · have hf := if_f c4 hf
          refine e_aload_nQ (w := v2) dX5_readOnce_123 2 rfl rfl (pc2 := 124) rfl ?_
          refine e_getsE (i := 16) (by decide) dX5_readOnce_124 gs_X5_147 (pc2 := 127) rfl ?_
          refine e_acmp_ne (tgt := 147) dX5_readOnce_127 (by decide) (w1 := v2) (w2 := 1016) hv2 (by decide) (pc2 := 130) rfl (fun c5 => ?_) (fun c5 => ?_)
          · have hf := if_f c5 hf
            refine e_aload_n dX5_readOnce_147 1 rfl rfl (pc2 := 148) rfl ?_
            refine e_aload_n dX5_readOnce_148 0 rfl rfl (pc2 := 149) rfl ?_
            refine e_getR (r := 36) fl_X5_9 dX5_readOnce_149 so_69 (rs_69_0 s.2.2) (by decide) (pc2 := 152) rfl ?_
            refine e_iconst (x := 1) dX5_readOnce_152 (by decide) (pc2 := 153) rfl ?_
            refine e_bipush (x := 30) dX5_readOnce_153 (by decide) (pc2 := 155) rfl ?_
            obtain ⟨y6, s7, hy6, hf⟩ := bnd2_s hf
            refine e_callVs (t_X8_takeNumber 1 30 s hy6) dX5_readOnce_155 cv_X5_112 rfl so_36 rc_8 (by decide) (by first | exact Nat.le_of_ble_eq_true rfl | simp [rva_cat, vc_i, vc_r, vc_l, vc_n]) nn0 rfl (pc2 := 158) rfl ?_
            obtain ⟨s8, es8, hf⟩ := ltb_s hf
            refine e_putI fl_X5_153 dX5_readOnce_158 (okX4_o hv1) fn_4_6 (h2 := hp s8) (by rw [es8]; rfl) (pc2 := 161) rfl ?_
            cases hf
            exact e_vret rfl dX5_readOnce_161
          · have hf := if_t c5 hf
            refine e_aload_n dX5_readOnce_130 1 rfl rfl (pc2 := 131) rfl ?_
            refine e_aload_n dX5_readOnce_131 0 rfl rfl (pc2 := 132) rfl ?_
            refine e_getR (r := 36) fl_X5_9 dX5_readOnce_132 so_69 (rs_69_0 s.2.2) (by decide) (pc2 := 135) rfl ?_
            refine e_iconst (x := 1) dX5_readOnce_135 (by decide) (pc2 := 136) rfl ?_
            refine e_bipush (x := 120) dX5_readOnce_136 (by decide) (pc2 := 138) rfl ?_
            obtain ⟨y9, s10, hy9, hf⟩ := bnd2_s hf
            refine e_callVs (t_X8_takeNumber 1 120 s hy9) dX5_readOnce_138 cv_X5_112 rfl so_36 rc_8 (by decide) (by first | exact Nat.le_of_ble_eq_true rfl | simp [rva_cat, vc_i, vc_r, vc_l, vc_n]) nn0 rfl (pc2 := 141) rfl ?_
            obtain ⟨s11, es11, hf⟩ := ltb_s hf
            refine e_putI fl_X5_150 dX5_readOnce_141 (okX4_o hv1) fn_4_5 (h2 := hp s11) (by rw [es11]; rfl) (pc2 := 144) rfl ?_
            refine e_goto (tgt := 161) dX5_readOnce_144 (by decide) ?_
            cases hf
            exact e_vret rfl dX5_readOnce_161
        · have hf := if_t c4 hf
          refine e_aload_n dX5_readOnce_106 1 rfl rfl (pc2 := 107) rfl ?_
          refine e_aload_n dX5_readOnce_107 0 rfl rfl (pc2 := 108) rfl ?_
          refine e_getR (r := 36) fl_X5_9 dX5_readOnce_108 so_69 (rs_69_0 s.2.2) (by decide) (pc2 := 111) rfl ?_
          refine e_iconst (x := 0) dX5_readOnce_111 (by decide) (pc2 := 112) rfl ?_
          refine e_bipush (x := 99) dX5_readOnce_112 (by decide) (pc2 := 114) rfl ?_
          obtain ⟨y12, s13, hy12, hf⟩ := bnd2_s hf
          refine e_callVs (t_X8_takeNumber 0 99 s hy12) dX5_readOnce_114 cv_X5_112 rfl so_36 rc_8 (by decide) (by first | exact Nat.le_of_ble_eq_true rfl | simp [rva_cat, vc_i, vc_r, vc_l, vc_n]) nn0 rfl (pc2 := 117) rfl ?_
          obtain ⟨s14, es14, hf⟩ := ltb_s hf
          refine e_putI fl_X5_144 dX5_readOnce_117 (okX4_o hv1) fn_4_4 (h2 := hp s14) (by rw [es14]; rfl) (pc2 := 120) rfl ?_
          refine e_goto (tgt := 161) dX5_readOnce_120 (by decide) ?_
          cases hf
          exact e_vret rfl dX5_readOnce_161
      · have hf := if_t c3 hf
        refine e_aload_n dX5_readOnce_82 1 rfl rfl (pc2 := 83) rfl ?_
        refine e_aload_n dX5_readOnce_83 0 rfl rfl (pc2 := 84) rfl ?_
        refine e_getR (r := 36) fl_X5_9 dX5_readOnce_84 so_69 (rs_69_0 s.2.2) (by decide) (pc2 := 87) rfl ?_
        refine e_iconst (x := 0) dX5_readOnce_87 (by decide) (pc2 := 88) rfl ?_
        refine e_bipush (x := 60) dX5_readOnce_88 (by decide) (pc2 := 90) rfl ?_
        obtain ⟨y15, s16, hy15, hf⟩ := bnd2_s hf
        refine e_callVs (t_X8_takeNumber 0 60 s hy15) dX5_readOnce_90 cv_X5_112 rfl so_36 rc_8 (by decide) (by first | exact Nat.le_of_ble_eq_true rfl | simp [rva_cat, vc_i, vc_r, vc_l, vc_n]) nn0 rfl (pc2 := 93) rfl ?_
        obtain ⟨s17, es17, hf⟩ := ltb_s hf
        refine e_putI fl_X5_138 dX5_readOnce_93 (okX4_o hv1) fn_4_3 (h2 := hp s17) (by rw [es17]; rfl) (pc2 := 96) rfl ?_
        refine e_goto (tgt := 161) dX5_readOnce_96 (by decide) ?_
        cases hf
        exact e_vret rfl dX5_readOnce_161
    · have hf := if_t c2 hf
      refine e_aload_n dX5_readOnce_59 1 rfl rfl (pc2 := 60) rfl ?_
      refine e_aload_n dX5_readOnce_60 0 rfl rfl (pc2 := 61) rfl ?_
      refine e_getR (r := 36) fl_X5_9 dX5_readOnce_61 so_69 (rs_69_0 s.2.2) (by decide) (pc2 := 64) rfl ?_
      refine e_iconst (x := 1) dX5_readOnce_64 (by decide) (pc2 := 65) rfl ?_
      refine e_iconst (x := 2) dX5_readOnce_65 (by decide) (pc2 := 66) rfl ?_
      obtain ⟨y18, s19, hy18, hf⟩ := bnd2_s hf
      refine e_callVs (t_X8_takeNumber 1 2 s hy18) dX5_readOnce_66 cv_X5_112 rfl so_36 rc_8 (by decide) (by first | exact Nat.le_of_ble_eq_true rfl | simp [rva_cat, vc_i, vc_r, vc_l, vc_n]) nn0 rfl (pc2 := 69) rfl ?_
      obtain ⟨s20, es20, hf⟩ := ltb_s hf
      refine e_putI fl_X5_132 dX5_readOnce_69 (okX4_o hv1) fn_4_2 (h2 := hp s20) (by rw [es20]; rfl) (pc2 := 72) rfl ?_
      refine e_goto (tgt := 161) dX5_readOnce_72 (by decide) ?_
      cases hf
      exact e_vret rfl dX5_readOnce_161
  · have hf := if_t c1 hf
    refine e_aload_n dX5_readOnce_7 1 rfl rfl (pc2 := 8) rfl ?_
    refine e_aload_n dX5_readOnce_8 0 rfl rfl (pc2 := 9) rfl ?_
    refine e_getR (r := 36) fl_X5_9 dX5_readOnce_9 so_69 (rs_69_0 s.2.2) (by decide) (pc2 := 12) rfl ?_
    refine e_bipush (x := 60) dX5_readOnce_12 (by decide) (pc2 := 14) rfl ?_
    refine e_sipush (x := 900) dX5_readOnce_14 (by decide) (pc2 := 17) rfl ?_
    obtain ⟨y21, s22, hy21, hf⟩ := bnd2_s hf
    refine e_callVs (t_X8_takeNumber 60 900 s hy21) dX5_readOnce_17 cv_X5_112 rfl so_36 rc_8 (by decide) (by first | exact Nat.le_of_ble_eq_true rfl | simp [rva_cat, vc_i, vc_r, vc_l, vc_n]) nn0 rfl (pc2 := 20) rfl ?_
    obtain ⟨s23, es23, hf⟩ := ltb_s hf
    refine e_putI fl_X5_116 dX5_readOnce_20 (okX4_o hv1) fn_4_0 (h2 := hp s23) (by rw [es23]; rfl) (pc2 := 23) rfl ?_
    refine e_aload_n dX5_readOnce_23 0 rfl rfl (pc2 := 24) rfl ?_
    refine e_getR (r := 36) fl_X5_9 dX5_readOnce_24 so_69 (rs_69_0 s23.2.2) (by decide) (pc2 := 27) rfl ?_
    refine e_getsE (i := 1) (by decide) dX5_readOnce_27 gs_X5_119 (pc2 := 30) rfl ?_
    obtain ⟨s25, hy24, hf⟩ := bnd_s hf
    refine e_callVn (t_X8_take 1001 (by decide) s23 hy24) dX5_readOnce_30 cv_X5_122 rfl so_36 rc_8 (by decide) (by first | exact Nat.le_of_ble_eq_true rfl | simp [rva_cat, vc_i, vc_r, vc_l, vc_n]) nn0 rfl (pc2 := 33) rfl ?_
    refine e_aload_n dX5_readOnce_33 1 rfl rfl (pc2 := 34) rfl ?_
    refine e_aload_n dX5_readOnce_34 0 rfl rfl (pc2 := 35) rfl ?_
    refine e_getR (r := 36) fl_X5_9 dX5_readOnce_35 so_69 (rs_69_0 s25.2.2) (by decide) (pc2 := 38) rfl ?_
    refine e_iconst (x := 1) dX5_readOnce_38 (by decide) (pc2 := 39) rfl ?_
    refine e_aload_n dX5_readOnce_39 1 rfl rfl (pc2 := 40) rfl ?_
    refine e_getI fl_X5_116 dX5_readOnce_40 (okX4_o hv1) (by decide) (pc2 := 43) rfl ?_
    obtain ⟨y26, s27, hy26, hf⟩ := bnd2_s hf
    refine e_callVs (t_X8_takeNumber 1 (s25.1 v1 0) s25 hy26) dX5_readOnce_43 cv_X5_112 rfl so_36 rc_8 (by decide) (by first | exact Nat.le_of_ble_eq_true rfl | simp [rva_cat, vc_i, vc_r, vc_l, vc_n]) nn0 rfl (pc2 := 46) rfl ?_
    obtain ⟨s28, es28, hf⟩ := ltb_s hf
    refine e_putI fl_X5_126 dX5_readOnce_46 (okX4_o hv1) fn_4_1 (h2 := hp s28) (by rw [es28]; rfl) (pc2 := 49) rfl ?_
    refine e_goto (tgt := 161) dX5_readOnce_49 (by decide) ?_
    cases hf
    exact e_vret rfl dX5_readOnce_161
abbrev DDX5_readLate : Nat := 7
def f_X5_readLate_l5b (v1 : Nat) (v2 : Int32) (v3 : Int32) (k5 : Int32 → Int32 → HS → Option HS) (k41 : Int32 → HS → Option HS) (s : HS) : Option HS :=
  (if 3 ≤ v3 then k41 v2 s else bnd2 (f_X8_takeNumber 0 10 s) fun y2 s3 => gd (inb v3 4) (ltb (sI s3 (Rf v1 7) (v3.toNatClampNeg) y2) fun s4 => gd (inb v3 4) (ltb (v2 - (s4.1 (Rf v1 7) v3.toNatClampNeg)) fun x7 => ltb (v3 + 1) fun x8 => k5 x7 x8 s4)))
set_option maxRecDepth 20000 in
set_option maxHeartbeats 2000000 in
theorem t_X5_readLate_l5b (v1 : Nat) (v2 : Int32) (v3 : Int32) (hv1 : okX4 v1 = true) (s : HS) {t : HS} (k5 : Int32 → Int32 → HS → Option HS) (hk5 : ∀ (a2 : Int32) (a3 : Int32) (s : HS), k5 a2 a3 s = some t → Ev DDX5_readLate miX5_readLate NF none NF (hp t) 5 NF [(0, .ref 69), (1, .ref v1), (2, .int a2), (3, .int a3)] [] (hp s)) (k41 : Int32 → HS → Option HS) (hk41 : ∀ (a2 : Int32) (s : HS), k41 a2 s = some t → Ev DDX5_readLate miX5_readLate NF none NF (hp t) 41 NF [(0, .ref 69), (1, .ref v1), (2, .int a2)] [] (hp s)) (hf : f_X5_readLate_l5b v1 v2 v3 k5 k41 s = some t) : Ev DDX5_readLate miX5_readLate NF none NF (hp t) 5 NF [(0, .ref 69), (1, .ref v1), (2, .int v2), (3, .int v3)] [] (hp s) := by
  refine e_iload_n dX5_readLate_5 3 rfl rfl (pc2 := 6) rfl ?_
  refine e_iconst (x := 3) dX5_readLate_6 (by decide) (pc2 := 7) rfl ?_
  refine e_icmp_ge (tgt := 41) dX5_readLate_7 (by decide) (pc2 := 10) rfl (fun c1 => ?_) (fun c1 => ?_)
  · have hf := if_t c1 hf
    refine ev_sub [0, 1, 2] rfl ?_
    exact hk41 v2 s hf
  · have hf := if_f c1 hf
    refine e_aload_n dX5_readLate_10 1 rfl rfl (pc2 := 11) rfl ?_
    refine e_getR (r := Rf v1 7) fl_X5_156 dX5_readLate_11 (okX4_o hv1) (okX4_R hv1) (isA_ne (okX4_late hv1)) (pc2 := 14) rfl ?_
    refine e_iload_n dX5_readLate_14 3 rfl rfl (pc2 := 15) rfl ?_
    refine e_aload_n dX5_readLate_15 0 rfl rfl (pc2 := 16) rfl ?_
    refine e_getR (r := 36) fl_X5_9 dX5_readLate_16 so_69 (rs_69_0 s.2.2) (by decide) (pc2 := 19) rfl ?_
    refine e_iconst (x := 0) dX5_readLate_19 (by decide) (pc2 := 20) rfl ?_
    refine e_bipush (x := 10) dX5_readLate_20 (by decide) (pc2 := 22) rfl ?_
    obtain ⟨y2, s3, hy2, hf⟩ := bnd2_s hf
    refine e_callVs (t_X8_takeNumber 0 10 s hy2) dX5_readLate_22 cv_X5_112 rfl so_36 rc_8 (by decide) (by first | exact Nat.le_of_ble_eq_true rfl | simp [rva_cat, vc_i, vc_r, vc_l, vc_n]) nn0 rfl (pc2 := 25) rfl ?_
    obtain ⟨g5, hf⟩ := gd_some hf
    obtain ⟨s4, es4, hf⟩ := ltb_s hf
    refine e_iast dX5_readLate_25 (okX4_late hv1) (inb_v g5) (h2 := hp s4) (by rw [es4]; rfl) (pc2 := 26) rfl ?_
    refine e_iload_n dX5_readLate_26 2 rfl rfl (pc2 := 27) rfl ?_
    refine e_aload_n dX5_readLate_27 1 rfl rfl (pc2 := 28) rfl ?_
    refine e_getR (r := Rf v1 7) fl_X5_156 dX5_readLate_28 (okX4_o hv1) (okX4_R hv1) (isA_ne (okX4_late hv1)) (pc2 := 31) rfl ?_
    refine e_iload_n dX5_readLate_31 3 rfl rfl (pc2 := 32) rfl ?_
    obtain ⟨g6, hf⟩ := gd_some hf
    refine e_iald dX5_readLate_32 (okX4_late hv1) (inb_v g6) (pc2 := 33) rfl ?_
    refine e_isub dX5_readLate_33 (pc2 := 34) rfl ?_
    obtain ⟨x7, ex7, hf⟩ := ltb_s hf
    refine e_istore_n dX5_readLate_34 rfl (by decide) ex7.symm (ls' := [(0, .ref 69), (1, .ref v1), (2, .int x7), (3, .int v3)]) [1, 2, 0, 3] rfl (pc2 := 35) rfl ?_
    obtain ⟨x8, ex8, hf⟩ := ltb_s hf
    refine e_iinc dX5_readLate_35 3 rfl (c9 := 1) (by decide) ex8.symm (by decide) (ls' := [(0, .ref 69), (1, .ref v1), (2, .int x7), (3, .int x8)]) [1, 2, 3, 0] rfl (pc2 := 38) rfl ?_
    refine e_goto (tgt := 5) dX5_readLate_38 (by decide) ?_
    exact hk5 x7 x8 s4 hf
def f_X5_readLate_l5 (v1 : Nat) (k41 : Int32 → HS → Option HS) : Nat → Int32 → Int32 → HS → Option HS
  | 0, _, _, _ => none
  | n + 1, v2, v3, s => f_X5_readLate_l5b v1 v2 v3 (f_X5_readLate_l5 v1 k41 n) k41 s
set_option maxRecDepth 20000 in
set_option maxHeartbeats 2000000 in
theorem t_X5_readLate_l5 (v1 : Nat) (hv1 : okX4 v1 = true) {t : HS} (k41 : Int32 → HS → Option HS) (hk41 : ∀ (a2 : Int32) (s : HS), k41 a2 s = some t → Ev DDX5_readLate miX5_readLate NF none NF (hp t) 41 NF [(0, .ref 69), (1, .ref v1), (2, .int a2)] [] (hp s)) : ∀ (n : Nat) (v2 : Int32) (v3 : Int32) (s : HS), f_X5_readLate_l5 v1 k41 n v2 v3 s = some t → Ev DDX5_readLate miX5_readLate NF none NF (hp t) 5 NF [(0, .ref 69), (1, .ref v1), (2, .int v2), (3, .int v3)] [] (hp s) := by
  intro n
  induction n with
  | zero =>
    intro v2 v3 s hf
    have hf : none = some t := hf
    cases hf
  | succ n ih =>
    intro v2 v3 s hf
    exact t_X5_readLate_l5b v1 v2 v3 hv1 s _ ih _ hk41 hf
def f_X5_readLate (v1 : Nat) (s : HS) : Option HS :=
  f_X5_readLate_l5 v1 (fun v9 s10 => bnd2 (f_X8_takeNumber v9 v9 s10) fun y11 s12 => ltb (sI s12 (Rf v1 7) (3) y11) fun s13 => some s13) FU 10 0 s
set_option maxRecDepth 20000 in
set_option maxHeartbeats 2000000 in
theorem t_X5_readLate (v1 : Nat) (hv1 : okX4 v1 = true) (s : HS) {t : HS} (hf : f_X5_readLate  v1 s = some t) : Mt DDX5_readLate miX5_readLate [.ref 69, .ref v1] NF (hp s) none NF (hp t) := by
  refine Mt.of (by decide +kernel) (Nat.le_refl _) (Nat.le_of_ble_eq_true rfl) ?_
  show Ev DDX5_readLate miX5_readLate NF none NF (hp t) 0 NF [(0, .ref 69), (1, .ref v1)] [] (hp s)
  unfold f_X5_readLate at hf
  refine e_bipush (x := 10) dX5_readLate_0 (by decide) (pc2 := 2) rfl ?_
  refine e_istore_n dX5_readLate_2 rfl (by decide) rfl (ls' := [(0, .ref 69), (1, .ref v1), (2, .int 10)]) [1, 2, 0] rfl (pc2 := 3) rfl ?_
  refine e_iconst (x := 0) dX5_readLate_3 (by decide) (pc2 := 4) rfl ?_
  refine e_istore_n dX5_readLate_4 rfl (by decide) rfl (ls' := [(0, .ref 69), (1, .ref v1), (2, .int 10), (3, .int 0)]) [1, 2, 3, 0] rfl (pc2 := 5) rfl ?_
  refine t_X5_readLate_l5 v1 hv1 _ ?_ FU 10 0 s hf
  · intro v9 s10 hf
    refine e_aload_n dX5_readLate_41 1 rfl rfl (pc2 := 42) rfl ?_
    refine e_getR (r := Rf v1 7) fl_X5_156 dX5_readLate_42 (okX4_o hv1) (okX4_R hv1) (isA_ne (okX4_late hv1)) (pc2 := 45) rfl ?_
    refine e_iconst (x := 3) dX5_readLate_45 (by decide) (pc2 := 46) rfl ?_
    refine e_aload_n dX5_readLate_46 0 rfl rfl (pc2 := 47) rfl ?_
    refine e_getR (r := 36) fl_X5_9 dX5_readLate_47 so_69 (rs_69_0 s10.2.2) (by decide) (pc2 := 50) rfl ?_
    refine e_iload_n dX5_readLate_50 2 rfl rfl (pc2 := 51) rfl ?_
    refine e_iload_n dX5_readLate_51 2 rfl rfl (pc2 := 52) rfl ?_
    obtain ⟨y11, s12, hy11, hf⟩ := bnd2_s hf
    refine e_callVs (t_X8_takeNumber v9 v9 s10 hy11) dX5_readLate_52 cv_X5_112 rfl so_36 rc_8 (by decide) (by first | exact Nat.le_of_ble_eq_true rfl | simp [rva_cat, vc_i, vc_r, vc_l, vc_n]) nn0 rfl (pc2 := 55) rfl ?_
    obtain ⟨s13, es13, hf⟩ := ltb_s hf
    refine e_iast dX5_readLate_55 (okX4_late hv1) (inb_v (by decide)) (h2 := hp s13) (by rw [es13]; rfl) (pc2 := 56) rfl ?_
    cases hf
    exact e_vret rfl dX5_readLate_56
abbrev DDX5_takeNewName : Nat := 6
def f_X5_takeNewName (v1 : Nat) (s : HS) : Option (Int64 × HS) :=
  ltb (s.2.1 36 5) fun x1 => bnd (f_X8_isName s) fun y2 => (if y2 = 0 then bnd (f_X8_fail 1 s) fun s19 => some (x1, s19) else bnd (f_X4_coachOf v1 x1 s) fun y4 => (if 0 ≤ y4 then bnd (f_X8_fail 3 s) fun s7 => some (x1, s7) else bnd (f_X4_thingOf v1 x1 s) fun y8 => (if 0 ≤ y8 then bnd (f_X8_fail 3 s) fun s11 => some (x1, s11) else bnd (f_X4_buyerOf v1 x1 s) fun y12 => (if y12 < 0 then bnd (f_X8_step s) fun s15 => some (x1, s15) else bnd (f_X8_fail 3 s) fun s17 => some (x1, s17)))))
set_option maxRecDepth 20000 in
set_option maxHeartbeats 2000000 in
theorem t_X5_takeNewName (v1 : Nat) (hv1 : okX4 v1 = true) (s : HS) {x : Int64} {t : HS} (hf : f_X5_takeNewName  v1 s = some (x, t)) : Mt DDX5_takeNewName miX5_takeNewName [.ref 69, .ref v1] NF (hp s) (some (.long x)) NF (hp t) := by
  refine Mt.of (by decide +kernel) (Nat.le_refl _) (Nat.le_of_ble_eq_true rfl) ?_
  show Ev DDX5_takeNewName miX5_takeNewName NF (some (.long x)) NF (hp t) 0 NF [(0, .ref 69), (1, .ref v1)] [] (hp s)
  unfold f_X5_takeNewName at hf
  refine e_aload_n dX5_takeNewName_0 0 rfl rfl (pc2 := 1) rfl ?_
  refine e_getR (r := 36) fl_X5_9 dX5_takeNewName_1 so_69 (rs_69_0 s.2.2) (by decide) (pc2 := 4) rfl ?_
  refine e_getL fl_X5_252 dX5_takeNewName_4 so_36 rfl (pc2 := 7) rfl ?_
  obtain ⟨x1, ex1, hf⟩ := ltb_s hf
  refine e_lstore_n dX5_takeNewName_7 rfl (by decide) ex1.symm (ls' := [(0, .ref 69), (1, .ref v1), (2, .long x1)]) [1, 2, 0] rfl (pc2 := 8) rfl ?_
  refine e_aload_n dX5_takeNewName_8 0 rfl rfl (pc2 := 9) rfl ?_
  refine e_getR (r := 36) fl_X5_9 dX5_takeNewName_9 so_69 (rs_69_0 s.2.2) (by decide) (pc2 := 12) rfl ?_
  obtain ⟨y2, hy2, hf⟩ := bnd_s hf
  refine e_callVs (t_X8_isName  s hy2) dX5_takeNewName_12 cv_X5_295 rfl so_36 rc_8 (by decide) (by first | exact Nat.le_of_ble_eq_true rfl | simp [rva_cat, vc_i, vc_r, vc_l, vc_n]) nn0 rfl (pc2 := 15) rfl ?_
  refine e_if_ne (tgt := 29) dX5_takeNewName_15 (by decide) (pc2 := 18) rfl (fun c3 => ?_) (fun c3 => ?_)
  · have hf := if_f c3 hf
    refine e_aload_n dX5_takeNewName_29 1 rfl rfl (pc2 := 30) rfl ?_
    refine e_lload_n dX5_takeNewName_30 2 rfl rfl (pc2 := 31) rfl ?_
    obtain ⟨y4, hy4, hf⟩ := bnd_s hf
    refine e_callVs (t_X4_coachOf v1 hv1 x1 s hy4) dX5_takeNewName_31 cv_X5_255 rfl (okX4_o hv1) rc_4 (by decide) (by first | exact Nat.le_of_ble_eq_true rfl | simp [rva_cat, vc_i, vc_r, vc_l, vc_n]) nn0 rfl (pc2 := 34) rfl ?_
    refine e_if_ge (tgt := 53) dX5_takeNewName_34 (by decide) (pc2 := 37) rfl (fun c5 => ?_) (fun c5 => ?_)
    · have hf := if_t c5 hf
      refine e_aload_n dX5_takeNewName_53 0 rfl rfl (pc2 := 54) rfl ?_
      refine e_getR (r := 36) fl_X5_9 dX5_takeNewName_54 so_69 (rs_69_0 s.2.2) (by decide) (pc2 := 57) rfl ?_
      refine e_iconst (x := 3) dX5_takeNewName_57 (by decide) (pc2 := 58) rfl ?_
      obtain ⟨s7, hy6, hf⟩ := bnd_s hf
      refine e_callVn (t_X8_fail 3 s hy6) dX5_takeNewName_58 cv_X5_77 rfl so_36 rc_8 (by decide) (by first | exact Nat.le_of_ble_eq_true rfl | simp [rva_cat, vc_i, vc_r, vc_l, vc_n]) nn0 rfl (pc2 := 61) rfl ?_
      refine e_goto (tgt := 71) dX5_takeNewName_61 (by decide) ?_
      refine e_lload_n dX5_takeNewName_71 2 rfl rfl (pc2 := 72) rfl ?_
      cases hf
      exact e_lret rfl dX5_takeNewName_72
    · have hf := if_f c5 hf
      refine e_aload_n dX5_takeNewName_37 1 rfl rfl (pc2 := 38) rfl ?_
      refine e_lload_n dX5_takeNewName_38 2 rfl rfl (pc2 := 39) rfl ?_
      obtain ⟨y8, hy8, hf⟩ := bnd_s hf
      refine e_callVs (t_X4_thingOf v1 hv1 x1 s hy8) dX5_takeNewName_39 cv_X5_292 rfl (okX4_o hv1) rc_4 (by decide) (by first | exact Nat.le_of_ble_eq_true rfl | simp [rva_cat, vc_i, vc_r, vc_l, vc_n]) nn0 rfl (pc2 := 42) rfl ?_
      refine e_if_ge (tgt := 53) dX5_takeNewName_42 (by decide) (pc2 := 45) rfl (fun c9 => ?_) (fun c9 => ?_)
      · have hf := if_t c9 hf
        refine e_aload_n dX5_takeNewName_53 0 rfl rfl (pc2 := 54) rfl ?_
        refine e_getR (r := 36) fl_X5_9 dX5_takeNewName_54 so_69 (rs_69_0 s.2.2) (by decide) (pc2 := 57) rfl ?_
        refine e_iconst (x := 3) dX5_takeNewName_57 (by decide) (pc2 := 58) rfl ?_
        obtain ⟨s11, hy10, hf⟩ := bnd_s hf
        refine e_callVn (t_X8_fail 3 s hy10) dX5_takeNewName_58 cv_X5_77 rfl so_36 rc_8 (by decide) (by first | exact Nat.le_of_ble_eq_true rfl | simp [rva_cat, vc_i, vc_r, vc_l, vc_n]) nn0 rfl (pc2 := 61) rfl ?_
        refine e_goto (tgt := 71) dX5_takeNewName_61 (by decide) ?_
        refine e_lload_n dX5_takeNewName_71 2 rfl rfl (pc2 := 72) rfl ?_
        cases hf
        exact e_lret rfl dX5_takeNewName_72
      · have hf := if_f c9 hf
        refine e_aload_n dX5_takeNewName_45 1 rfl rfl (pc2 := 46) rfl ?_
        refine e_lload_n dX5_takeNewName_46 2 rfl rfl (pc2 := 47) rfl ?_
        obtain ⟨y12, hy12, hf⟩ := bnd_s hf
        refine e_callVs (t_X4_buyerOf v1 hv1 x1 s hy12) dX5_takeNewName_47 cv_X5_301 rfl (okX4_o hv1) rc_4 (by decide) (by first | exact Nat.le_of_ble_eq_true rfl | simp [rva_cat, vc_i, vc_r, vc_l, vc_n]) nn0 rfl (pc2 := 50) rfl ?_
        refine e_if_lt (tgt := 64) dX5_takeNewName_50 (by decide) (pc2 := 53) rfl (fun c13 => ?_) (fun c13 => ?_)
        · have hf := if_t c13 hf
          refine e_aload_n dX5_takeNewName_64 0 rfl rfl (pc2 := 65) rfl ?_
          refine e_getR (r := 36) fl_X5_9 dX5_takeNewName_65 so_69 (rs_69_0 s.2.2) (by decide) (pc2 := 68) rfl ?_
          obtain ⟨s15, hy14, hf⟩ := bnd_s hf
          refine e_callVn (t_X8_step  s hy14) dX5_takeNewName_68 cv_X5_81 rfl so_36 rc_8 (by decide) (by first | exact Nat.le_of_ble_eq_true rfl | simp [rva_cat, vc_i, vc_r, vc_l, vc_n]) nn0 rfl (pc2 := 71) rfl ?_
          refine e_lload_n dX5_takeNewName_71 2 rfl rfl (pc2 := 72) rfl ?_
          cases hf
          exact e_lret rfl dX5_takeNewName_72
        · have hf := if_f c13 hf
          refine e_aload_n dX5_takeNewName_53 0 rfl rfl (pc2 := 54) rfl ?_
          refine e_getR (r := 36) fl_X5_9 dX5_takeNewName_54 so_69 (rs_69_0 s.2.2) (by decide) (pc2 := 57) rfl ?_
          refine e_iconst (x := 3) dX5_takeNewName_57 (by decide) (pc2 := 58) rfl ?_
          obtain ⟨s17, hy16, hf⟩ := bnd_s hf
          refine e_callVn (t_X8_fail 3 s hy16) dX5_takeNewName_58 cv_X5_77 rfl so_36 rc_8 (by decide) (by first | exact Nat.le_of_ble_eq_true rfl | simp [rva_cat, vc_i, vc_r, vc_l, vc_n]) nn0 rfl (pc2 := 61) rfl ?_
          refine e_goto (tgt := 71) dX5_takeNewName_61 (by decide) ?_
          refine e_lload_n dX5_takeNewName_71 2 rfl rfl (pc2 := 72) rfl ?_
          cases hf
          exact e_lret rfl dX5_takeNewName_72
  · have hf := if_t c3 hf
    refine e_aload_n dX5_takeNewName_18 0 rfl rfl (pc2 := 19) rfl ?_
    refine e_getR (r := 36) fl_X5_9 dX5_takeNewName_19 so_69 (rs_69_0 s.2.2) (by decide) (pc2 := 22) rfl ?_
    refine e_iconst (x := 1) dX5_takeNewName_22 (by decide) (pc2 := 23) rfl ?_
    obtain ⟨s19, hy18, hf⟩ := bnd_s hf
    refine e_callVn (t_X8_fail 1 s hy18) dX5_takeNewName_23 cv_X5_77 rfl so_36 rc_8 (by decide) (by first | exact Nat.le_of_ble_eq_true rfl | simp [rva_cat, vc_i, vc_r, vc_l, vc_n]) nn0 rfl (pc2 := 26) rfl ?_
    refine e_goto (tgt := 71) dX5_takeNewName_26 (by decide) ?_
    refine e_lload_n dX5_takeNewName_71 2 rfl rfl (pc2 := 72) rfl ?_
    cases hf
    exact e_lret rfl dX5_takeNewName_72
abbrev DDX8_takeOneOf : Nat := 7
def f_X8_takeOneOf_j25 (v1 : Nat) (v2 : Nat) (v3 : Nat) (w0 : Int32) (s : HS) : Option (Int32 × HS) :=
  (if w0 = 0 then bnd (f_X8_take v1 s) fun s12 => some (w0, s12) else (if w0 = 1 then bnd (f_X8_take v2 s) fun s10 => some (w0, s10) else bnd (f_X8_take v3 s) fun s8 => some (w0, s8)))
set_option maxRecDepth 20000 in
set_option maxHeartbeats 2000000 in
theorem t_X8_takeOneOf_j25 (v1 : Nat) (v2 : Nat) (v3 : Nat) (w0 : Int32) (hv1 : wob v1 = true) (hv2 : wob v2 = true) (hv3 : wob v3 = true) (s : HS) {x : Int32} {t : HS}  (hf : f_X8_takeOneOf_j25 v1 v2 v3 w0 s = some (x, t)) : Ev DDX8_takeOneOf miX8_takeOneOf NF (some (.int x)) NF (hp t) 25 NF [(0, .ref 36), (1, rva v1), (2, rva v2), (3, rva v3)] [.int w0] (hp s) := by
  refine e_istore dX8_takeOneOf_25 (by decide) rfl (ls' := [(0, .ref 36), (1, rva v1), (2, rva v2), (3, rva v3), (4, .int w0)]) [1, 2, 3, 4, 0] (by first | rfl | simp [lv_pick, rva_cat, vc_i, vc_r, vc_l, vc_n]) (pc2 := 27) rfl ?_
  refine e_aload_n dX8_takeOneOf_27 0 rfl rfl (pc2 := 28) rfl ?_
  refine e_iload dX8_takeOneOf_28 4 rfl (pc2 := 30) rfl ?_
  refine e_if_ne (tgt := 37) dX8_takeOneOf_30 (by decide) (pc2 := 33) rfl (fun c5 => ?_) (fun c5 => ?_)
  · have hf := if_f c5 hf
    refine e_iload dX8_takeOneOf_37 4 rfl (pc2 := 39) rfl ?_
    refine e_iconst (x := 1) dX8_takeOneOf_39 (by decide) (pc2 := 40) rfl ?_
    refine e_icmp_ne (tgt := 47) dX8_takeOneOf_40 (by decide) (pc2 := 43) rfl (fun c6 => ?_) (fun c6 => ?_)
    · have hf := if_f c6 hf
      refine e_aload_nQ (w := v3) dX8_takeOneOf_47 3 rfl rfl (pc2 := 48) rfl ?_
      obtain ⟨s8, hy7, hf⟩ := bnd_s hf
      refine e_callVn (t_X8_take v3 hv3 s hy7) dX8_takeOneOf_48 cv_X8_85 rfl so_36 rc_8 (by decide) (by first | exact Nat.le_of_ble_eq_true rfl | simp [rva_cat, vc_i, vc_r, vc_l, vc_n]) nn0 rfl (pc2 := 51) rfl ?_
      refine e_iload dX8_takeOneOf_51 4 rfl (pc2 := 53) rfl ?_
      cases hf
      exact e_iret rfl dX8_takeOneOf_53
    · have hf := if_t c6 hf
      refine e_aload_nQ (w := v2) dX8_takeOneOf_43 2 rfl rfl (pc2 := 44) rfl ?_
      refine e_goto (tgt := 48) dX8_takeOneOf_44 (by decide) ?_
      obtain ⟨s10, hy9, hf⟩ := bnd_s hf
      refine e_callVn (t_X8_take v2 hv2 s hy9) dX8_takeOneOf_48 cv_X8_85 rfl so_36 rc_8 (by decide) (by first | exact Nat.le_of_ble_eq_true rfl | simp [rva_cat, vc_i, vc_r, vc_l, vc_n]) nn0 rfl (pc2 := 51) rfl ?_
      refine e_iload dX8_takeOneOf_51 4 rfl (pc2 := 53) rfl ?_
      cases hf
      exact e_iret rfl dX8_takeOneOf_53
  · have hf := if_t c5 hf
    refine e_aload_nQ (w := v1) dX8_takeOneOf_33 1 rfl rfl (pc2 := 34) rfl ?_
    refine e_goto (tgt := 48) dX8_takeOneOf_34 (by decide) ?_
    obtain ⟨s12, hy11, hf⟩ := bnd_s hf
    refine e_callVn (t_X8_take v1 hv1 s hy11) dX8_takeOneOf_48 cv_X8_85 rfl so_36 rc_8 (by decide) (by first | exact Nat.le_of_ble_eq_true rfl | simp [rva_cat, vc_i, vc_r, vc_l, vc_n]) nn0 rfl (pc2 := 51) rfl ?_
    refine e_iload dX8_takeOneOf_51 4 rfl (pc2 := 53) rfl ?_
    cases hf
    exact e_iret rfl dX8_takeOneOf_53
def f_X8_takeOneOf (v1 : Nat) (v2 : Nat) (v3 : Nat) (s : HS) : Option (Int32 × HS) :=
  gd (wob (s.2.2.2.2.2.2)) ((if (s.2.2.2.2.2.2) = v1 then f_X8_takeOneOf_j25 v1 v2 v3 0 s else gd (wob (s.2.2.2.2.2.2)) ((if (s.2.2.2.2.2.2) = v2 then f_X8_takeOneOf_j25 v1 v2 v3 1 s else f_X8_takeOneOf_j25 v1 v2 v3 2 s))))
set_option maxRecDepth 20000 in
set_option maxHeartbeats 2000000 in
theorem t_X8_takeOneOf (v1 : Nat) (hv1 : wob v1 = true) (v2 : Nat) (hv2 : wob v2 = true) (v3 : Nat) (hv3 : wob v3 = true) (s : HS) {x : Int32} {t : HS} (hf : f_X8_takeOneOf  v1 v2 v3 s = some (x, t)) : Mt DDX8_takeOneOf miX8_takeOneOf [.ref 36, rva v1, rva v2, rva v3] NF (hp s) (some (.int x)) NF (hp t) := by
  refine Mt.of (by decide +kernel) (Nat.le_refl _) (by simp [lg_sl, rva_cat, vc_i, vc_r, vc_l, vc_n]) ?_
  rw [show lv_args 0 [.ref 36, rva v1, rva v2, rva v3] = [(0, .ref 36), (1, rva v1), (2, rva v2), (3, rva v3)] by simp [lv_args, rva_cat, vc_i, vc_r, vc_l, vc_n]]
  show Ev DDX8_takeOneOf miX8_takeOneOf NF (some (.int x)) NF (hp t) 0 NF [(0, .ref 36), (1, rva v1), (2, rva v2), (3, rva v3)] [] (hp s)
  unfold f_X8_takeOneOf at hf
  refine e_aload_n dX8_takeOneOf_0 0 rfl rfl (pc2 := 1) rfl ?_
  obtain ⟨g1, hf⟩ := gd_some hf
  refine e_getQ (w := s.2.2.2.2.2.2) fl_X8_36 dX8_takeOneOf_1 so_36 rfl (pc2 := 4) rfl ?_
  refine e_aload_nQ (w := v1) dX8_takeOneOf_4 1 rfl rfl (pc2 := 5) rfl ?_
  refine e_acmp_ne (tgt := 12) dX8_takeOneOf_5 (by decide) (w1 := s.2.2.2.2.2.2) (w2 := v1) g1 hv1 (pc2 := 8) rfl (fun c2 => ?_) (fun c2 => ?_)
  · have hf := if_f c2 hf
    refine e_aload_n dX8_takeOneOf_12 0 rfl rfl (pc2 := 13) rfl ?_
    obtain ⟨g3, hf⟩ := gd_some hf
    refine e_getQ (w := s.2.2.2.2.2.2) fl_X8_36 dX8_takeOneOf_13 so_36 rfl (pc2 := 16) rfl ?_
    refine e_aload_nQ (w := v2) dX8_takeOneOf_16 2 rfl rfl (pc2 := 17) rfl ?_
    refine e_acmp_ne (tgt := 24) dX8_takeOneOf_17 (by decide) (w1 := s.2.2.2.2.2.2) (w2 := v2) g3 hv2 (pc2 := 20) rfl (fun c4 => ?_) (fun c4 => ?_)
    · have hf := if_f c4 hf
      refine e_iconst (x := 2) dX8_takeOneOf_24 (by decide) (pc2 := 25) rfl ?_
      exact t_X8_takeOneOf_j25 v1 v2 v3 2 hv1 hv2 hv3 s hf
    · have hf := if_t c4 hf
      refine e_iconst (x := 1) dX8_takeOneOf_20 (by decide) (pc2 := 21) rfl ?_
      refine e_goto (tgt := 25) dX8_takeOneOf_21 (by decide) ?_
      exact t_X8_takeOneOf_j25 v1 v2 v3 1 hv1 hv2 hv3 s hf
  · have hf := if_t c2 hf
    refine e_iconst (x := 0) dX8_takeOneOf_8 (by decide) (pc2 := 9) rfl ?_
    refine e_goto (tgt := 25) dX8_takeOneOf_9 (by decide) ?_
    exact t_X8_takeOneOf_j25 v1 v2 v3 0 hv1 hv2 hv3 s hf
abbrev DDX5_readWants : Nat := 6
def f_X5_readWants_j165 (v1 : Nat) (v2 : Nat) (v3 : Int32) (k12 : Int32 → HS → Option HS) (s : HS) : Option HS :=
  ltb (v3 + 1) fun x17 => k12 x17 s
set_option maxRecDepth 20000 in
set_option maxHeartbeats 2000000 in
theorem t_X5_readWants_j165 (v1 : Nat) (v2 : Nat) (v3 : Int32) (hv1 : okX4 v1 = true) (hv2 : okX0 v2 = true) (s : HS) {t : HS} (k12 : Int32 → HS → Option HS) (hk12 : ∀ (a3 : Int32) (s : HS), k12 a3 s = some t → Ev DDX5_readWants miX5_readWants NF none NF (hp t) 12 NF [(0, .ref 69), (1, .ref v1), (2, .ref v2), (3, .int a3)] [] (hp s)) (hf : f_X5_readWants_j165 v1 v2 v3 k12 s = some t) : Ev DDX5_readWants miX5_readWants NF none NF (hp t) 165 NF [(0, .ref 69), (1, .ref v1), (2, .ref v2), (3, .int v3)] [] (hp s) := by
  obtain ⟨x17, ex17, hf⟩ := ltb_s hf
  refine e_iinc dX5_readWants_165 3 rfl (c9 := 1) (by decide) ex17.symm (by decide) (ls' := [(0, .ref 69), (1, .ref v1), (2, .ref v2), (3, .int x17)]) [1, 2, 3, 0] rfl (pc2 := 168) rfl ?_
  refine e_goto (tgt := 12) dX5_readWants_168 (by decide) ?_
  exact hk12 x17 s hf
def f_X5_readWants_j32 (v1 : Nat) (v2 : Nat) (v3 : Int32) (k12 : Int32 → HS → Option HS) (s : HS) : Option HS :=
  bnd (f_X4_thingOf v1 (s.2.1 36 5) s) fun y5 => bnd (f_X8_isName s) fun y6 => (if y6 = 0 then bnd (f_X8_fail 1 s) fun s25 => f_X5_readWants_j165 v1 v2 v3 k12 s25 else (if 0 ≤ y5 then (if (((s.1 v2 7) >>> (y5 &&& 31)) &&& (1 : Int32)) = 0 then (if (s.1 v2 6) < 3 then gd (inb (s.1 v2 6) 3) (ltb (sI s (Rf v2 5) ((s.1 v2 6).toNatClampNeg) y5) fun s11 => ltb (sI s11 v2 6 ((s11.1 v2 6) + 1)) fun s13 => ltb (sI s13 v2 7 ((s13.1 v2 7) ||| ((1 : Int32) <<< (y5 &&& 31)))) fun s14 => bnd (f_X8_step s14) fun s16 => f_X5_readWants_j165 v1 v2 v3 k12 s16) else bnd (f_X8_fail 5 s) fun s19 => f_X5_readWants_j165 v1 v2 v3 k12 s19) else bnd (f_X8_fail 3 s) fun s21 => f_X5_readWants_j165 v1 v2 v3 k12 s21) else bnd (f_X8_fail 2 s) fun s23 => f_X5_readWants_j165 v1 v2 v3 k12 s23))
set_option maxRecDepth 20000 in
set_option maxHeartbeats 2000000 in
theorem t_X5_readWants_j32 (v1 : Nat) (v2 : Nat) (v3 : Int32) (hv1 : okX4 v1 = true) (hv2 : okX0 v2 = true) (s : HS) {t : HS} (k12 : Int32 → HS → Option HS) (hk12 : ∀ (a3 : Int32) (s : HS), k12 a3 s = some t → Ev DDX5_readWants miX5_readWants NF none NF (hp t) 12 NF [(0, .ref 69), (1, .ref v1), (2, .ref v2), (3, .int a3)] [] (hp s)) (hf : f_X5_readWants_j32 v1 v2 v3 k12 s = some t) : Ev DDX5_readWants miX5_readWants NF none NF (hp t) 32 NF [(0, .ref 69), (1, .ref v1), (2, .ref v2), (3, .int v3)] [] (hp s) := by
  refine e_aload_n dX5_readWants_32 1 rfl rfl (pc2 := 33) rfl ?_
  refine e_aload_n dX5_readWants_33 0 rfl rfl (pc2 := 34) rfl ?_
  refine e_getR (r := 36) fl_X5_9 dX5_readWants_34 so_69 (rs_69_0 s.2.2) (by decide) (pc2 := 37) rfl ?_
  refine e_getL fl_X5_252 dX5_readWants_37 so_36 rfl (pc2 := 40) rfl ?_
  obtain ⟨y5, hy5, hf⟩ := bnd_s hf
  refine e_callVs (t_X4_thingOf v1 hv1 (s.2.1 36 5) s hy5) dX5_readWants_40 cv_X5_292 rfl (okX4_o hv1) rc_4 (by decide) (by first | exact Nat.le_of_ble_eq_true rfl | simp [rva_cat, vc_i, vc_r, vc_l, vc_n]) nn0 rfl (pc2 := 43) rfl ?_
  refine e_istore dX5_readWants_43 (by decide) rfl (ls' := [(0, .ref 69), (1, .ref v1), (2, .ref v2), (3, .int v3), (4, .int y5)]) [1, 2, 3, 4, 0] rfl (pc2 := 45) rfl ?_
  refine e_aload_n dX5_readWants_45 0 rfl rfl (pc2 := 46) rfl ?_
  refine e_getR (r := 36) fl_X5_9 dX5_readWants_46 so_69 (rs_69_0 s.2.2) (by decide) (pc2 := 49) rfl ?_
  obtain ⟨y6, hy6, hf⟩ := bnd_s hf
  refine e_callVs (t_X8_isName  s hy6) dX5_readWants_49 cv_X5_295 rfl so_36 rc_8 (by decide) (by first | exact Nat.le_of_ble_eq_true rfl | simp [rva_cat, vc_i, vc_r, vc_l, vc_n]) nn0 rfl (pc2 := 52) rfl ?_
  refine e_if_ne (tgt := 66) dX5_readWants_52 (by decide) (pc2 := 55) rfl (fun c7 => ?_) (fun c7 => ?_)
  · have hf := if_f c7 hf
    refine e_iload dX5_readWants_66 4 rfl (pc2 := 68) rfl ?_
    refine e_if_ge (tgt := 82) dX5_readWants_68 (by decide) (pc2 := 71) rfl (fun c8 => ?_) (fun c8 => ?_)
    · have hf := if_t c8 hf
      refine e_aload_n dX5_readWants_82 2 rfl rfl (pc2 := 83) rfl ?_
      refine e_getI fl_X5_288 dX5_readWants_83 (okX0_o hv2) (by decide) (pc2 := 86) rfl ?_
      refine e_iload dX5_readWants_86 4 rfl (pc2 := 88) rfl ?_
      refine e_ishr dX5_readWants_88 (pc2 := 89) rfl ?_
      refine e_iconst (x := 1) dX5_readWants_89 (by decide) (pc2 := 90) rfl ?_
      refine e_iand dX5_readWants_90 (pc2 := 91) rfl ?_
      refine e_if_eq (tgt := 105) dX5_readWants_91 (by decide) (pc2 := 94) rfl (fun c9 => ?_) (fun c9 => ?_)
      · have hf := if_t c9 hf
        refine e_aload_n dX5_readWants_105 2 rfl rfl (pc2 := 106) rfl ?_
        refine e_getI fl_X5_285 dX5_readWants_106 (okX0_o hv2) (by decide) (pc2 := 109) rfl ?_
        refine e_iconst (x := 3) dX5_readWants_109 (by decide) (pc2 := 110) rfl ?_
        refine e_icmp_lt (tgt := 124) dX5_readWants_110 (by decide) (pc2 := 113) rfl (fun c10 => ?_) (fun c10 => ?_)
        · have hf := if_t c10 hf
          refine e_aload_n dX5_readWants_124 2 rfl rfl (pc2 := 125) rfl ?_
          refine e_getR (r := Rf v2 5) fl_X5_298 dX5_readWants_125 (okX0_o hv2) (okX0_R hv2) (isA_ne (okX0_wants hv2)) (pc2 := 128) rfl ?_
          refine e_aload_n dX5_readWants_128 2 rfl rfl (pc2 := 129) rfl ?_
          refine e_getI fl_X5_285 dX5_readWants_129 (okX0_o hv2) (by decide) (pc2 := 132) rfl ?_
          refine e_iload dX5_readWants_132 4 rfl (pc2 := 134) rfl ?_
          obtain ⟨g12, hf⟩ := gd_some hf
          obtain ⟨s11, es11, hf⟩ := ltb_s hf
          refine e_iast dX5_readWants_134 (okX0_wants hv2) (inb_v g12) (h2 := hp s11) (by rw [es11]; rfl) (pc2 := 135) rfl ?_
          refine e_aload_n dX5_readWants_135 2 rfl rfl (pc2 := 136) rfl ?_
          refine e_dup dX5_readWants_136 rfl (pc2 := 137) rfl ?_
          refine e_getI fl_X5_285 dX5_readWants_137 (okX0_o hv2) (by decide) (pc2 := 140) rfl ?_
          refine e_iconst (x := 1) dX5_readWants_140 (by decide) (pc2 := 141) rfl ?_
          refine e_iadd dX5_readWants_141 (pc2 := 142) rfl ?_
          obtain ⟨s13, es13, hf⟩ := ltb_s hf
          refine e_putI fl_X5_285 dX5_readWants_142 (okX0_o hv2) fn_0_6 (h2 := hp s13) (by rw [es13]; rfl) (pc2 := 145) rfl ?_
          refine e_aload_n dX5_readWants_145 2 rfl rfl (pc2 := 146) rfl ?_
          refine e_dup dX5_readWants_146 rfl (pc2 := 147) rfl ?_
          refine e_getI fl_X5_288 dX5_readWants_147 (okX0_o hv2) (by decide) (pc2 := 150) rfl ?_
          refine e_iconst (x := 1) dX5_readWants_150 (by decide) (pc2 := 151) rfl ?_
          refine e_iload dX5_readWants_151 4 rfl (pc2 := 153) rfl ?_
          refine e_ishl dX5_readWants_153 (pc2 := 154) rfl ?_
          refine e_ior dX5_readWants_154 (pc2 := 155) rfl ?_
          obtain ⟨s14, es14, hf⟩ := ltb_s hf
          refine e_putI fl_X5_288 dX5_readWants_155 (okX0_o hv2) fn_0_7 (h2 := hp s14) (by rw [es14]; rfl) (pc2 := 158) rfl ?_
          refine e_aload_n dX5_readWants_158 0 rfl rfl (pc2 := 159) rfl ?_
          refine e_getR (r := 36) fl_X5_9 dX5_readWants_159 so_69 (rs_69_0 s14.2.2) (by decide) (pc2 := 162) rfl ?_
          obtain ⟨s16, hy15, hf⟩ := bnd_s hf
          refine e_callVn (t_X8_step  s14 hy15) dX5_readWants_162 cv_X5_81 rfl so_36 rc_8 (by decide) (by first | exact Nat.le_of_ble_eq_true rfl | simp [rva_cat, vc_i, vc_r, vc_l, vc_n]) nn0 rfl (pc2 := 165) rfl ?_
          refine ev_sub [0, 1, 2, 3] rfl ?_
          exact t_X5_readWants_j165 v1 v2 v3 hv1 hv2 s16 _ hk12 hf
        · have hf := if_f c10 hf
          refine e_aload_n dX5_readWants_113 0 rfl rfl (pc2 := 114) rfl ?_
          refine e_getR (r := 36) fl_X5_9 dX5_readWants_114 so_69 (rs_69_0 s.2.2) (by decide) (pc2 := 117) rfl ?_
          refine e_iconst (x := 5) dX5_readWants_117 (by decide) (pc2 := 118) rfl ?_
          obtain ⟨s19, hy18, hf⟩ := bnd_s hf
          refine e_callVn (t_X8_fail 5 s hy18) dX5_readWants_118 cv_X5_77 rfl so_36 rc_8 (by decide) (by first | exact Nat.le_of_ble_eq_true rfl | simp [rva_cat, vc_i, vc_r, vc_l, vc_n]) nn0 rfl (pc2 := 121) rfl ?_
          refine e_goto (tgt := 165) dX5_readWants_121 (by decide) ?_
          refine ev_sub [0, 1, 2, 3] rfl ?_
          exact t_X5_readWants_j165 v1 v2 v3 hv1 hv2 s19 _ hk12 hf
      · have hf := if_f c9 hf
        refine e_aload_n dX5_readWants_94 0 rfl rfl (pc2 := 95) rfl ?_
        refine e_getR (r := 36) fl_X5_9 dX5_readWants_95 so_69 (rs_69_0 s.2.2) (by decide) (pc2 := 98) rfl ?_
        refine e_iconst (x := 3) dX5_readWants_98 (by decide) (pc2 := 99) rfl ?_
        obtain ⟨s21, hy20, hf⟩ := bnd_s hf
        refine e_callVn (t_X8_fail 3 s hy20) dX5_readWants_99 cv_X5_77 rfl so_36 rc_8 (by decide) (by first | exact Nat.le_of_ble_eq_true rfl | simp [rva_cat, vc_i, vc_r, vc_l, vc_n]) nn0 rfl (pc2 := 102) rfl ?_
        refine e_goto (tgt := 165) dX5_readWants_102 (by decide) ?_
        refine ev_sub [0, 1, 2, 3] rfl ?_
        exact t_X5_readWants_j165 v1 v2 v3 hv1 hv2 s21 _ hk12 hf
    · have hf := if_f c8 hf
      refine e_aload_n dX5_readWants_71 0 rfl rfl (pc2 := 72) rfl ?_
      refine e_getR (r := 36) fl_X5_9 dX5_readWants_72 so_69 (rs_69_0 s.2.2) (by decide) (pc2 := 75) rfl ?_
      refine e_iconst (x := 2) dX5_readWants_75 (by decide) (pc2 := 76) rfl ?_
      obtain ⟨s23, hy22, hf⟩ := bnd_s hf
      refine e_callVn (t_X8_fail 2 s hy22) dX5_readWants_76 cv_X5_77 rfl so_36 rc_8 (by decide) (by first | exact Nat.le_of_ble_eq_true rfl | simp [rva_cat, vc_i, vc_r, vc_l, vc_n]) nn0 rfl (pc2 := 79) rfl ?_
      refine e_goto (tgt := 165) dX5_readWants_79 (by decide) ?_
      refine ev_sub [0, 1, 2, 3] rfl ?_
      exact t_X5_readWants_j165 v1 v2 v3 hv1 hv2 s23 _ hk12 hf
  · have hf := if_t c7 hf
    refine e_aload_n dX5_readWants_55 0 rfl rfl (pc2 := 56) rfl ?_
    refine e_getR (r := 36) fl_X5_9 dX5_readWants_56 so_69 (rs_69_0 s.2.2) (by decide) (pc2 := 59) rfl ?_
    refine e_iconst (x := 1) dX5_readWants_59 (by decide) (pc2 := 60) rfl ?_
    obtain ⟨s25, hy24, hf⟩ := bnd_s hf
    refine e_callVn (t_X8_fail 1 s hy24) dX5_readWants_60 cv_X5_77 rfl so_36 rc_8 (by decide) (by first | exact Nat.le_of_ble_eq_true rfl | simp [rva_cat, vc_i, vc_r, vc_l, vc_n]) nn0 rfl (pc2 := 63) rfl ?_
    refine e_goto (tgt := 165) dX5_readWants_63 (by decide) ?_
    refine ev_sub [0, 1, 2, 3] rfl ?_
    exact t_X5_readWants_j165 v1 v2 v3 hv1 hv2 s25 _ hk12 hf
def f_X5_readWants_l12b (v1 : Nat) (v2 : Nat) (v3 : Int32) (k12 : Int32 → HS → Option HS) (s : HS) : Option HS :=
  (if 3 < v3 then some s else (if v3 = 0 then f_X5_readWants_j32 v1 v2 v3 k12 s else (if (s.1 36 4) = 1 then f_X5_readWants_j32 v1 v2 v3 k12 s else some s)))
set_option maxRecDepth 20000 in
set_option maxHeartbeats 2000000 in
theorem t_X5_readWants_l12b (v1 : Nat) (v2 : Nat) (v3 : Int32) (hv1 : okX4 v1 = true) (hv2 : okX0 v2 = true) (s : HS) {t : HS} (k12 : Int32 → HS → Option HS) (hk12 : ∀ (a3 : Int32) (s : HS), k12 a3 s = some t → Ev DDX5_readWants miX5_readWants NF none NF (hp t) 12 NF [(0, .ref 69), (1, .ref v1), (2, .ref v2), (3, .int a3)] [] (hp s)) (hf : f_X5_readWants_l12b v1 v2 v3 k12 s = some t) : Ev DDX5_readWants miX5_readWants NF none NF (hp t) 12 NF [(0, .ref 69), (1, .ref v1), (2, .ref v2), (3, .int v3)] [] (hp s) := by
  refine e_iload_n dX5_readWants_12 3 rfl rfl (pc2 := 13) rfl ?_
  refine e_iconst (x := 3) dX5_readWants_13 (by decide) (pc2 := 14) rfl ?_
  refine e_icmp_gt (tgt := 171) dX5_readWants_14 (by decide) (pc2 := 17) rfl (fun c3 => ?_) (fun c3 => ?_)
  · have hf := if_t c3 hf
    cases hf
    exact e_vret rfl dX5_readWants_171
  · have hf := if_f c3 hf
    refine e_iload_n dX5_readWants_17 3 rfl rfl (pc2 := 18) rfl ?_
    refine e_if_eq (tgt := 32) dX5_readWants_18 (by decide) (pc2 := 21) rfl (fun c4 => ?_) (fun c4 => ?_)
    · have hf := if_t c4 hf
      exact t_X5_readWants_j32 v1 v2 v3 hv1 hv2 s _ hk12 hf
    · have hf := if_f c4 hf
      refine e_aload_n dX5_readWants_21 0 rfl rfl (pc2 := 22) rfl ?_
      refine e_getR (r := 36) fl_X5_9 dX5_readWants_22 so_69 (rs_69_0 s.2.2) (by decide) (pc2 := 25) rfl ?_
      refine e_getI fl_X5_291 dX5_readWants_25 so_36 (by decide) (pc2 := 28) rfl ?_
      refine e_iconst (x := 1) dX5_readWants_28 (by decide) (pc2 := 29) rfl ?_
      refine e_icmp_ne (tgt := 171) dX5_readWants_29 (by decide) (pc2 := 32) rfl (fun c26 => ?_) (fun c26 => ?_)
      · have hf := if_f c26 hf
        cases hf
        exact e_vret rfl dX5_readWants_171
      · have hf := if_t c26 hf
        exact t_X5_readWants_j32 v1 v2 v3 hv1 hv2 s _ hk12 hf
def f_X5_readWants_l12 (v1 : Nat) (v2 : Nat) : Nat → Int32 → HS → Option HS
  | 0, _, _ => none
  | n + 1, v3, s => f_X5_readWants_l12b v1 v2 v3 (f_X5_readWants_l12 v1 v2 n)  s
set_option maxRecDepth 20000 in
set_option maxHeartbeats 2000000 in
theorem t_X5_readWants_l12 (v1 : Nat) (v2 : Nat) (hv1 : okX4 v1 = true) (hv2 : okX0 v2 = true) {t : HS}  : ∀ (n : Nat) (v3 : Int32) (s : HS), f_X5_readWants_l12 v1 v2 n v3 s = some t → Ev DDX5_readWants miX5_readWants NF none NF (hp t) 12 NF [(0, .ref 69), (1, .ref v1), (2, .ref v2), (3, .int v3)] [] (hp s) := by
  intro n
  induction n with
  | zero =>
    intro v3 s hf
    have hf : none = some t := hf
    cases hf
  | succ n ih =>
    intro v3 s hf
    exact t_X5_readWants_l12b v1 v2 v3 hv1 hv2 s _ ih  hf
def f_X5_readWants (v1 : Nat) (v2 : Nat) (s : HS) : Option HS :=
  ltb (sI s v2 6 0) fun s1 => ltb (sI s1 v2 7 0) fun s2 => f_X5_readWants_l12 v1 v2 FU 0 s2
set_option maxRecDepth 20000 in
set_option maxHeartbeats 2000000 in
theorem t_X5_readWants (v1 : Nat) (hv1 : okX4 v1 = true) (v2 : Nat) (hv2 : okX0 v2 = true) (s : HS) {t : HS} (hf : f_X5_readWants  v1 v2 s = some t) : Mt DDX5_readWants miX5_readWants [.ref 69, .ref v1, .ref v2] NF (hp s) none NF (hp t) := by
  refine Mt.of (by decide +kernel) (Nat.le_refl _) (Nat.le_of_ble_eq_true rfl) ?_
  show Ev DDX5_readWants miX5_readWants NF none NF (hp t) 0 NF [(0, .ref 69), (1, .ref v1), (2, .ref v2)] [] (hp s)
  unfold f_X5_readWants at hf
  refine e_aload_n dX5_readWants_0 2 rfl rfl (pc2 := 1) rfl ?_
  refine e_iconst (x := 0) dX5_readWants_1 (by decide) (pc2 := 2) rfl ?_
  obtain ⟨s1, es1, hf⟩ := ltb_s hf
  refine e_putI fl_X5_285 dX5_readWants_2 (okX0_o hv2) fn_0_6 (h2 := hp s1) (by rw [es1]; rfl) (pc2 := 5) rfl ?_
  refine e_aload_n dX5_readWants_5 2 rfl rfl (pc2 := 6) rfl ?_
  refine e_iconst (x := 0) dX5_readWants_6 (by decide) (pc2 := 7) rfl ?_
  obtain ⟨s2, es2, hf⟩ := ltb_s hf
  refine e_putI fl_X5_288 dX5_readWants_7 (okX0_o hv2) fn_0_7 (h2 := hp s2) (by rw [es2]; rfl) (pc2 := 10) rfl ?_
  refine e_iconst (x := 0) dX5_readWants_10 (by decide) (pc2 := 11) rfl ?_
  refine e_istore_n dX5_readWants_11 rfl (by decide) rfl (ls' := [(0, .ref 69), (1, .ref v1), (2, .ref v2), (3, .int 0)]) [1, 2, 3, 0] rfl (pc2 := 12) rfl ?_
  refine t_X5_readWants_l12 v1 v2 hv1 hv2 FU 0 s2 hf
abbrev DDX5_readBuyer : Nat := 8
def f_X5_readBuyer (v1 : Nat) (s : HS) : Option HS :=
  (if (s.1 v1 14) < 6 then gd (inb (s.1 v1 14) 6) (ltb (Rf (Rf v1 15) (s.1 v1 14).toNatClampNeg) fun o3 => bnd (f_X8_step s) fun s5 => bnd2 (f_X5_takeNewName v1 s5) fun y6 s7 => ltb (sL s7 o3 0 y6) fun s8 => bnd2 (f_X8_takeOneOf 1027 1028 1029 s8) fun y9 s10 => ltb (sI s10 o3 1 y9) fun s11 => bnd (f_X8_take 1002 s11) fun s13 => bnd (f_X4_coachOf v1 (s13.2.1 36 5) s13) fun y14 => bnd2 (f_X8_takeKnown y14 s13) fun y15 s16 => ltb (sI s16 o3 2 y15) fun s17 => bnd (f_X8_take 1010 s17) fun s19 => bnd2 (f_X8_takeNumber 0 10 s19) fun y20 s21 => ltb (sI s21 o3 3 y20) fun s22 => bnd (f_X8_take 1011 s22) fun s24 => bnd2 (f_X8_takeNumber 0 99 s24) fun y25 s26 => ltb (sI s26 o3 4 y25) fun s27 => bnd (f_X8_take 1012 s27) fun s29 => bnd (f_X5_readWants v1 o3 s29) fun s31 => ltb (sI s31 v1 14 ((s31.1 v1 14) + 1)) fun s32 => some s32) else bnd (f_X8_fail 5 s) fun s34 => some s34)
set_option maxRecDepth 20000 in
set_option maxHeartbeats 2000000 in
theorem t_X5_readBuyer (v1 : Nat) (hv1 : okX4 v1 = true) (s : HS) {t : HS} (hf : f_X5_readBuyer  v1 s = some t) : Mt DDX5_readBuyer miX5_readBuyer [.ref 69, .ref v1] NF (hp s) none NF (hp t) := by
  refine Mt.of (by decide +kernel) (Nat.le_refl _) (Nat.le_of_ble_eq_true rfl) ?_
  show Ev DDX5_readBuyer miX5_readBuyer NF none NF (hp t) 0 NF [(0, .ref 69), (1, .ref v1)] [] (hp s)
  unfold f_X5_readBuyer at hf
  refine e_aload_n dX5_readBuyer_0 1 rfl rfl (pc2 := 1) rfl ?_
  refine e_getI fl_X5_230 dX5_readBuyer_1 (okX4_o hv1) (by decide) (pc2 := 4) rfl ?_
  refine e_bipush (x := 6) dX5_readBuyer_4 (by decide) (pc2 := 6) rfl ?_
  refine e_icmp_lt (tgt := 18) dX5_readBuyer_6 (by decide) (pc2 := 9) rfl (fun c1 => ?_) (fun c1 => ?_)
  · have hf := if_t c1 hf
    refine e_aload_n dX5_readBuyer_18 1 rfl rfl (pc2 := 19) rfl ?_
    refine e_getR (r := Rf v1 15) fl_X5_233 dX5_readBuyer_19 (okX4_o hv1) (okX4_R hv1) (isA_ne (okX4_buyer hv1)) (pc2 := 22) rfl ?_
    refine e_aload_n dX5_readBuyer_22 1 rfl rfl (pc2 := 23) rfl ?_
    refine e_getI fl_X5_230 dX5_readBuyer_23 (okX4_o hv1) (by decide) (pc2 := 26) rfl ?_
    obtain ⟨g2, hf⟩ := gd_some hf
    refine e_aald (r := Rf (Rf v1 15) (s.1 v1 14).toNatClampNeg) dX5_readBuyer_26 (okX4_buyer hv1) (by decide) (inb_v g2) (Rs_na (q := s.2.2) (okX4_buyer hv1) (by decide)) (okX0_ne (okX4_buyer_el hv1 (inb_v g2))) (pc2 := 27) rfl ?_
    obtain ⟨o3, eo3, hf⟩ := ltb_s hf
    have ho3 : okX0 o3 = true := by rw [eo3]; exact (okX4_buyer_el hv1 (inb_v g2))
    refine e_astore_n dX5_readBuyer_27 rfl (by decide) eo3.symm (ls' := [(0, .ref 69), (1, .ref v1), (2, .ref o3)]) [1, 2, 0] rfl (pc2 := 28) rfl ?_
    refine e_aload_n dX5_readBuyer_28 0 rfl rfl (pc2 := 29) rfl ?_
    refine e_getR (r := 36) fl_X5_9 dX5_readBuyer_29 so_69 (rs_69_0 s.2.2) (by decide) (pc2 := 32) rfl ?_
    obtain ⟨s5, hy4, hf⟩ := bnd_s hf
    refine e_callVn (t_X8_step  s hy4) dX5_readBuyer_32 cv_X5_81 rfl so_36 rc_8 (by decide) (by first | exact Nat.le_of_ble_eq_true rfl | simp [rva_cat, vc_i, vc_r, vc_l, vc_n]) nn0 rfl (pc2 := 35) rfl ?_
    refine e_aload_n dX5_readBuyer_35 2 rfl rfl (pc2 := 36) rfl ?_
    refine e_aload_n dX5_readBuyer_36 0 rfl rfl (pc2 := 37) rfl ?_
    refine e_aload_n dX5_readBuyer_37 1 rfl rfl (pc2 := 38) rfl ?_
    obtain ⟨y6, s7, hy6, hf⟩ := bnd2_s hf
    refine e_callVs (t_X5_takeNewName v1 hv1 s5 hy6) dX5_readBuyer_38 cv_X5_167 rfl so_69 rc_5 (by decide) (by first | exact Nat.le_of_ble_eq_true rfl | simp [rva_cat, vc_i, vc_r, vc_l, vc_n]) nn0 rfl (pc2 := 41) rfl ?_
    obtain ⟨s8, es8, hf⟩ := ltb_s hf
    refine e_putL fl_X5_237 dX5_readBuyer_41 (okX0_o ho3) fn_0_0 (h2 := hp s8) (by rw [es8]; rfl) (pc2 := 44) rfl ?_
    refine e_aload_n dX5_readBuyer_44 2 rfl rfl (pc2 := 45) rfl ?_
    refine e_aload_n dX5_readBuyer_45 0 rfl rfl (pc2 := 46) rfl ?_
    refine e_getR (r := 36) fl_X5_9 dX5_readBuyer_46 so_69 (rs_69_0 s8.2.2) (by decide) (pc2 := 49) rfl ?_
    refine e_getsE (i := 27) (by decide) dX5_readBuyer_49 gs_X5_240 (pc2 := 52) rfl ?_
    refine e_getsE (i := 28) (by decide) dX5_readBuyer_52 gs_X5_243 (pc2 := 55) rfl ?_
    refine e_getsE (i := 29) (by decide) dX5_readBuyer_55 gs_X5_246 (pc2 := 58) rfl ?_
    obtain ⟨y9, s10, hy9, hf⟩ := bnd2_s hf
    refine e_callVs (t_X8_takeOneOf 1027 (by decide) 1028 (by decide) 1029 (by decide) s8 hy9) dX5_readBuyer_58 cv_X5_199 rfl so_36 rc_8 (by decide) (by first | exact Nat.le_of_ble_eq_true rfl | simp [rva_cat, vc_i, vc_r, vc_l, vc_n]) nn0 rfl (pc2 := 61) rfl ?_
    obtain ⟨s11, es11, hf⟩ := ltb_s hf
    refine e_putI fl_X5_249 dX5_readBuyer_61 (okX0_o ho3) fn_0_1 (h2 := hp s11) (by rw [es11]; rfl) (pc2 := 64) rfl ?_
    refine e_aload_n dX5_readBuyer_64 0 rfl rfl (pc2 := 65) rfl ?_
    refine e_getR (r := 36) fl_X5_9 dX5_readBuyer_65 so_69 (rs_69_0 s11.2.2) (by decide) (pc2 := 68) rfl ?_
    refine e_getsE (i := 2) (by decide) dX5_readBuyer_68 gs_X5_54 (pc2 := 71) rfl ?_
    obtain ⟨s13, hy12, hf⟩ := bnd_s hf
    refine e_callVn (t_X8_take 1002 (by decide) s11 hy12) dX5_readBuyer_71 cv_X5_122 rfl so_36 rc_8 (by decide) (by first | exact Nat.le_of_ble_eq_true rfl | simp [rva_cat, vc_i, vc_r, vc_l, vc_n]) nn0 rfl (pc2 := 74) rfl ?_
    refine e_aload_n dX5_readBuyer_74 2 rfl rfl (pc2 := 75) rfl ?_
    refine e_aload_n dX5_readBuyer_75 0 rfl rfl (pc2 := 76) rfl ?_
    refine e_getR (r := 36) fl_X5_9 dX5_readBuyer_76 so_69 (rs_69_0 s13.2.2) (by decide) (pc2 := 79) rfl ?_
    refine e_aload_n dX5_readBuyer_79 1 rfl rfl (pc2 := 80) rfl ?_
    refine e_aload_n dX5_readBuyer_80 0 rfl rfl (pc2 := 81) rfl ?_
    refine e_getR (r := 36) fl_X5_9 dX5_readBuyer_81 so_69 (rs_69_0 s13.2.2) (by decide) (pc2 := 84) rfl ?_
    refine e_getL fl_X5_252 dX5_readBuyer_84 so_36 rfl (pc2 := 87) rfl ?_
    obtain ⟨y14, hy14, hf⟩ := bnd_s hf
    refine e_callVs (t_X4_coachOf v1 hv1 (s13.2.1 36 5) s13 hy14) dX5_readBuyer_87 cv_X5_255 rfl (okX4_o hv1) rc_4 (by decide) (by first | exact Nat.le_of_ble_eq_true rfl | simp [rva_cat, vc_i, vc_r, vc_l, vc_n]) nn0 rfl (pc2 := 90) rfl ?_
    obtain ⟨y15, s16, hy15, hf⟩ := bnd2_s hf
    refine e_callVs (t_X8_takeKnown y14 s13 hy15) dX5_readBuyer_90 cv_X5_259 rfl so_36 rc_8 (by decide) (by first | exact Nat.le_of_ble_eq_true rfl | simp [rva_cat, vc_i, vc_r, vc_l, vc_n]) nn0 rfl (pc2 := 93) rfl ?_
    obtain ⟨s17, es17, hf⟩ := ltb_s hf
    refine e_putI fl_X5_263 dX5_readBuyer_93 (okX0_o ho3) fn_0_2 (h2 := hp s17) (by rw [es17]; rfl) (pc2 := 96) rfl ?_
    refine e_aload_n dX5_readBuyer_96 0 rfl rfl (pc2 := 97) rfl ?_
    refine e_getR (r := 36) fl_X5_9 dX5_readBuyer_97 so_69 (rs_69_0 s17.2.2) (by decide) (pc2 := 100) rfl ?_
    refine e_getsE (i := 10) (by decide) dX5_readBuyer_100 gs_X5_266 (pc2 := 103) rfl ?_
    obtain ⟨s19, hy18, hf⟩ := bnd_s hf
    refine e_callVn (t_X8_take 1010 (by decide) s17 hy18) dX5_readBuyer_103 cv_X5_122 rfl so_36 rc_8 (by decide) (by first | exact Nat.le_of_ble_eq_true rfl | simp [rva_cat, vc_i, vc_r, vc_l, vc_n]) nn0 rfl (pc2 := 106) rfl ?_
    refine e_aload_n dX5_readBuyer_106 2 rfl rfl (pc2 := 107) rfl ?_
    refine e_aload_n dX5_readBuyer_107 0 rfl rfl (pc2 := 108) rfl ?_
    refine e_getR (r := 36) fl_X5_9 dX5_readBuyer_108 so_69 (rs_69_0 s19.2.2) (by decide) (pc2 := 111) rfl ?_
    refine e_iconst (x := 0) dX5_readBuyer_111 (by decide) (pc2 := 112) rfl ?_
    refine e_bipush (x := 10) dX5_readBuyer_112 (by decide) (pc2 := 114) rfl ?_
    obtain ⟨y20, s21, hy20, hf⟩ := bnd2_s hf
    refine e_callVs (t_X8_takeNumber 0 10 s19 hy20) dX5_readBuyer_114 cv_X5_112 rfl so_36 rc_8 (by decide) (by first | exact Nat.le_of_ble_eq_true rfl | simp [rva_cat, vc_i, vc_r, vc_l, vc_n]) nn0 rfl (pc2 := 117) rfl ?_
    obtain ⟨s22, es22, hf⟩ := ltb_s hf
    refine e_putI fl_X5_269 dX5_readBuyer_117 (okX0_o ho3) fn_0_3 (h2 := hp s22) (by rw [es22]; rfl) (pc2 := 120) rfl ?_
    refine e_aload_n dX5_readBuyer_120 0 rfl rfl (pc2 := 121) rfl ?_
    refine e_getR (r := 36) fl_X5_9 dX5_readBuyer_121 so_69 (rs_69_0 s22.2.2) (by decide) (pc2 := 124) rfl ?_
    refine e_getsE (i := 11) (by decide) dX5_readBuyer_124 gs_X5_272 (pc2 := 127) rfl ?_
    obtain ⟨s24, hy23, hf⟩ := bnd_s hf
    refine e_callVn (t_X8_take 1011 (by decide) s22 hy23) dX5_readBuyer_127 cv_X5_122 rfl so_36 rc_8 (by decide) (by first | exact Nat.le_of_ble_eq_true rfl | simp [rva_cat, vc_i, vc_r, vc_l, vc_n]) nn0 rfl (pc2 := 130) rfl ?_
    refine e_aload_n dX5_readBuyer_130 2 rfl rfl (pc2 := 131) rfl ?_
    refine e_aload_n dX5_readBuyer_131 0 rfl rfl (pc2 := 132) rfl ?_
    refine e_getR (r := 36) fl_X5_9 dX5_readBuyer_132 so_69 (rs_69_0 s24.2.2) (by decide) (pc2 := 135) rfl ?_
    refine e_iconst (x := 0) dX5_readBuyer_135 (by decide) (pc2 := 136) rfl ?_
    refine e_bipush (x := 99) dX5_readBuyer_136 (by decide) (pc2 := 138) rfl ?_
    obtain ⟨y25, s26, hy25, hf⟩ := bnd2_s hf
    refine e_callVs (t_X8_takeNumber 0 99 s24 hy25) dX5_readBuyer_138 cv_X5_112 rfl so_36 rc_8 (by decide) (by first | exact Nat.le_of_ble_eq_true rfl | simp [rva_cat, vc_i, vc_r, vc_l, vc_n]) nn0 rfl (pc2 := 141) rfl ?_
    obtain ⟨s27, es27, hf⟩ := ltb_s hf
    refine e_putI fl_X5_275 dX5_readBuyer_141 (okX0_o ho3) fn_0_4 (h2 := hp s27) (by rw [es27]; rfl) (pc2 := 144) rfl ?_
    refine e_aload_n dX5_readBuyer_144 0 rfl rfl (pc2 := 145) rfl ?_
    refine e_getR (r := 36) fl_X5_9 dX5_readBuyer_145 so_69 (rs_69_0 s27.2.2) (by decide) (pc2 := 148) rfl ?_
    refine e_getsE (i := 12) (by decide) dX5_readBuyer_148 gs_X5_278 (pc2 := 151) rfl ?_
    obtain ⟨s29, hy28, hf⟩ := bnd_s hf
    refine e_callVn (t_X8_take 1012 (by decide) s27 hy28) dX5_readBuyer_151 cv_X5_122 rfl so_36 rc_8 (by decide) (by first | exact Nat.le_of_ble_eq_true rfl | simp [rva_cat, vc_i, vc_r, vc_l, vc_n]) nn0 rfl (pc2 := 154) rfl ?_
    refine e_aload_n dX5_readBuyer_154 0 rfl rfl (pc2 := 155) rfl ?_
    refine e_aload_n dX5_readBuyer_155 1 rfl rfl (pc2 := 156) rfl ?_
    refine e_aload_n dX5_readBuyer_156 2 rfl rfl (pc2 := 157) rfl ?_
    obtain ⟨s31, hy30, hf⟩ := bnd_s hf
    refine e_callVn (t_X5_readWants v1 hv1 o3 ho3 s29 hy30) dX5_readBuyer_157 cv_X5_281 rfl so_69 rc_5 (by decide) (by first | exact Nat.le_of_ble_eq_true rfl | simp [rva_cat, vc_i, vc_r, vc_l, vc_n]) nn0 rfl (pc2 := 160) rfl ?_
    refine e_aload_n dX5_readBuyer_160 1 rfl rfl (pc2 := 161) rfl ?_
    refine e_dup dX5_readBuyer_161 rfl (pc2 := 162) rfl ?_
    refine e_getI fl_X5_230 dX5_readBuyer_162 (okX4_o hv1) (by decide) (pc2 := 165) rfl ?_
    refine e_iconst (x := 1) dX5_readBuyer_165 (by decide) (pc2 := 166) rfl ?_
    refine e_iadd dX5_readBuyer_166 (pc2 := 167) rfl ?_
    obtain ⟨s32, es32, hf⟩ := ltb_s hf
    refine e_putI fl_X5_230 dX5_readBuyer_167 (okX4_o hv1) fn_4_14 (h2 := hp s32) (by rw [es32]; rfl) (pc2 := 170) rfl ?_
    cases hf
    exact e_vret rfl dX5_readBuyer_170
  · have hf := if_f c1 hf
    refine e_aload_n dX5_readBuyer_9 0 rfl rfl (pc2 := 10) rfl ?_
    refine e_getR (r := 36) fl_X5_9 dX5_readBuyer_10 so_69 (rs_69_0 s.2.2) (by decide) (pc2 := 13) rfl ?_
    refine e_iconst (x := 5) dX5_readBuyer_13 (by decide) (pc2 := 14) rfl ?_
    obtain ⟨s34, hy33, hf⟩ := bnd_s hf
    refine e_callVn (t_X8_fail 5 s hy33) dX5_readBuyer_14 cv_X5_77 rfl so_36 rc_8 (by decide) (by first | exact Nat.le_of_ble_eq_true rfl | simp [rva_cat, vc_i, vc_r, vc_l, vc_n]) nn0 rfl (pc2 := 17) rfl ?_
    cases hf
    exact e_vret rfl dX5_readBuyer_17
abbrev DDX5_readThing : Nat := 8
def f_X5_readThing (v1 : Nat) (s : HS) : Option HS :=
  (if (s.1 v1 12) < 5 then gd (inb (s.1 v1 12) 5) (ltb (Rf (Rf v1 13) (s.1 v1 12).toNatClampNeg) fun o3 => bnd (f_X8_step s) fun s5 => bnd2 (f_X5_takeNewName v1 s5) fun y6 s7 => ltb (sL s7 o3 0 y6) fun s8 => bnd2 (f_X8_takeOneOf 1024 1025 1026 s8) fun y9 s10 => ltb (sI s10 o3 1 y9) fun s11 => bnd (f_X8_take 1005 s11) fun s13 => bnd2 (f_X8_takeNumber 1 60 s13) fun y14 s15 => ltb (sI s15 o3 2 y14) fun s16 => bnd (f_X8_take 1006 s16) fun s18 => bnd2 (f_X8_takeNumber 1 99 s18) fun y19 s20 => ltb (sI s20 o3 3 y19) fun s21 => bnd (f_X8_take 1007 s21) fun s23 => bnd2 (f_X8_takeNumber 0 99 s23) fun y24 s25 => ltb (sI s25 o3 4 y24) fun s26 => bnd (f_X8_take 1008 s26) fun s28 => bnd2 (f_X8_takeNumber 0 20 s28) fun y29 s30 => ltb (sI s30 o3 5 y29) fun s31 => ltb (sI s31 v1 12 ((s31.1 v1 12) + 1)) fun s32 => some s32) else bnd (f_X8_fail 5 s) fun s34 => some s34)
set_option maxRecDepth 20000 in
set_option maxHeartbeats 2000000 in
theorem t_X5_readThing (v1 : Nat) (hv1 : okX4 v1 = true) (s : HS) {t : HS} (hf : f_X5_readThing  v1 s = some t) : Mt DDX5_readThing miX5_readThing [.ref 69, .ref v1] NF (hp s) none NF (hp t) := by
  refine Mt.of (by decide +kernel) (Nat.le_refl _) (Nat.le_of_ble_eq_true rfl) ?_
  show Ev DDX5_readThing miX5_readThing NF none NF (hp t) 0 NF [(0, .ref 69), (1, .ref v1)] [] (hp s)
  unfold f_X5_readThing at hf
  refine e_aload_n dX5_readThing_0 1 rfl rfl (pc2 := 1) rfl ?_
  refine e_getI fl_X5_177 dX5_readThing_1 (okX4_o hv1) (by decide) (pc2 := 4) rfl ?_
  refine e_iconst (x := 5) dX5_readThing_4 (by decide) (pc2 := 5) rfl ?_
  refine e_icmp_lt (tgt := 17) dX5_readThing_5 (by decide) (pc2 := 8) rfl (fun c1 => ?_) (fun c1 => ?_)
  · have hf := if_t c1 hf
    refine e_aload_n dX5_readThing_17 1 rfl rfl (pc2 := 18) rfl ?_
    refine e_getR (r := Rf v1 13) fl_X5_180 dX5_readThing_18 (okX4_o hv1) (okX4_R hv1) (isA_ne (okX4_thing hv1)) (pc2 := 21) rfl ?_
    refine e_aload_n dX5_readThing_21 1 rfl rfl (pc2 := 22) rfl ?_
    refine e_getI fl_X5_177 dX5_readThing_22 (okX4_o hv1) (by decide) (pc2 := 25) rfl ?_
    obtain ⟨g2, hf⟩ := gd_some hf
    refine e_aald (r := Rf (Rf v1 13) (s.1 v1 12).toNatClampNeg) dX5_readThing_25 (okX4_thing hv1) (by decide) (inb_v g2) (Rs_na (q := s.2.2) (okX4_thing hv1) (by decide)) (okX9_ne (okX4_thing_el hv1 (inb_v g2))) (pc2 := 26) rfl ?_
    obtain ⟨o3, eo3, hf⟩ := ltb_s hf
    have ho3 : okX9 o3 = true := by rw [eo3]; exact (okX4_thing_el hv1 (inb_v g2))
    refine e_astore_n dX5_readThing_26 rfl (by decide) eo3.symm (ls' := [(0, .ref 69), (1, .ref v1), (2, .ref o3)]) [1, 2, 0] rfl (pc2 := 27) rfl ?_
    refine e_aload_n dX5_readThing_27 0 rfl rfl (pc2 := 28) rfl ?_
    refine e_getR (r := 36) fl_X5_9 dX5_readThing_28 so_69 (rs_69_0 s.2.2) (by decide) (pc2 := 31) rfl ?_
    obtain ⟨s5, hy4, hf⟩ := bnd_s hf
    refine e_callVn (t_X8_step  s hy4) dX5_readThing_31 cv_X5_81 rfl so_36 rc_8 (by decide) (by first | exact Nat.le_of_ble_eq_true rfl | simp [rva_cat, vc_i, vc_r, vc_l, vc_n]) nn0 rfl (pc2 := 34) rfl ?_
    refine e_aload_n dX5_readThing_34 2 rfl rfl (pc2 := 35) rfl ?_
    refine e_aload_n dX5_readThing_35 0 rfl rfl (pc2 := 36) rfl ?_
    refine e_aload_n dX5_readThing_36 1 rfl rfl (pc2 := 37) rfl ?_
    obtain ⟨y6, s7, hy6, hf⟩ := bnd2_s hf
    refine e_callVs (t_X5_takeNewName v1 hv1 s5 hy6) dX5_readThing_37 cv_X5_167 rfl so_69 rc_5 (by decide) (by first | exact Nat.le_of_ble_eq_true rfl | simp [rva_cat, vc_i, vc_r, vc_l, vc_n]) nn0 rfl (pc2 := 40) rfl ?_
    obtain ⟨s8, es8, hf⟩ := ltb_s hf
    refine e_putL fl_X5_184 dX5_readThing_40 (okX9_o ho3) fn_9_0 (h2 := hp s8) (by rw [es8]; rfl) (pc2 := 43) rfl ?_
    refine e_aload_n dX5_readThing_43 2 rfl rfl (pc2 := 44) rfl ?_
    refine e_aload_n dX5_readThing_44 0 rfl rfl (pc2 := 45) rfl ?_
    refine e_getR (r := 36) fl_X5_9 dX5_readThing_45 so_69 (rs_69_0 s8.2.2) (by decide) (pc2 := 48) rfl ?_
    refine e_getsE (i := 24) (by decide) dX5_readThing_48 gs_X5_190 (pc2 := 51) rfl ?_
    refine e_getsE (i := 25) (by decide) dX5_readThing_51 gs_X5_193 (pc2 := 54) rfl ?_
    refine e_getsE (i := 26) (by decide) dX5_readThing_54 gs_X5_196 (pc2 := 57) rfl ?_
    obtain ⟨y9, s10, hy9, hf⟩ := bnd2_s hf
    refine e_callVs (t_X8_takeOneOf 1024 (by decide) 1025 (by decide) 1026 (by decide) s8 hy9) dX5_readThing_57 cv_X5_199 rfl so_36 rc_8 (by decide) (by first | exact Nat.le_of_ble_eq_true rfl | simp [rva_cat, vc_i, vc_r, vc_l, vc_n]) nn0 rfl (pc2 := 60) rfl ?_
    obtain ⟨s11, es11, hf⟩ := ltb_s hf
    refine e_putI fl_X5_203 dX5_readThing_60 (okX9_o ho3) fn_9_1 (h2 := hp s11) (by rw [es11]; rfl) (pc2 := 63) rfl ?_
    refine e_aload_n dX5_readThing_63 0 rfl rfl (pc2 := 64) rfl ?_
    refine e_getR (r := 36) fl_X5_9 dX5_readThing_64 so_69 (rs_69_0 s11.2.2) (by decide) (pc2 := 67) rfl ?_
    refine e_getsE (i := 5) (by decide) dX5_readThing_67 gs_X5_206 (pc2 := 70) rfl ?_
    obtain ⟨s13, hy12, hf⟩ := bnd_s hf
    refine e_callVn (t_X8_take 1005 (by decide) s11 hy12) dX5_readThing_70 cv_X5_122 rfl so_36 rc_8 (by decide) (by first | exact Nat.le_of_ble_eq_true rfl | simp [rva_cat, vc_i, vc_r, vc_l, vc_n]) nn0 rfl (pc2 := 73) rfl ?_
    refine e_aload_n dX5_readThing_73 2 rfl rfl (pc2 := 74) rfl ?_
    refine e_aload_n dX5_readThing_74 0 rfl rfl (pc2 := 75) rfl ?_
    refine e_getR (r := 36) fl_X5_9 dX5_readThing_75 so_69 (rs_69_0 s13.2.2) (by decide) (pc2 := 78) rfl ?_
    refine e_iconst (x := 1) dX5_readThing_78 (by decide) (pc2 := 79) rfl ?_
    refine e_bipush (x := 60) dX5_readThing_79 (by decide) (pc2 := 81) rfl ?_
    obtain ⟨y14, s15, hy14, hf⟩ := bnd2_s hf
    refine e_callVs (t_X8_takeNumber 1 60 s13 hy14) dX5_readThing_81 cv_X5_112 rfl so_36 rc_8 (by decide) (by first | exact Nat.le_of_ble_eq_true rfl | simp [rva_cat, vc_i, vc_r, vc_l, vc_n]) nn0 rfl (pc2 := 84) rfl ?_
    obtain ⟨s16, es16, hf⟩ := ltb_s hf
    refine e_putI fl_X5_209 dX5_readThing_84 (okX9_o ho3) fn_9_2 (h2 := hp s16) (by rw [es16]; rfl) (pc2 := 87) rfl ?_
    refine e_aload_n dX5_readThing_87 0 rfl rfl (pc2 := 88) rfl ?_
    refine e_getR (r := 36) fl_X5_9 dX5_readThing_88 so_69 (rs_69_0 s16.2.2) (by decide) (pc2 := 91) rfl ?_
    refine e_getsE (i := 6) (by decide) dX5_readThing_91 gs_X5_212 (pc2 := 94) rfl ?_
    obtain ⟨s18, hy17, hf⟩ := bnd_s hf
    refine e_callVn (t_X8_take 1006 (by decide) s16 hy17) dX5_readThing_94 cv_X5_122 rfl so_36 rc_8 (by decide) (by first | exact Nat.le_of_ble_eq_true rfl | simp [rva_cat, vc_i, vc_r, vc_l, vc_n]) nn0 rfl (pc2 := 97) rfl ?_
    refine e_aload_n dX5_readThing_97 2 rfl rfl (pc2 := 98) rfl ?_
    refine e_aload_n dX5_readThing_98 0 rfl rfl (pc2 := 99) rfl ?_
    refine e_getR (r := 36) fl_X5_9 dX5_readThing_99 so_69 (rs_69_0 s18.2.2) (by decide) (pc2 := 102) rfl ?_
    refine e_iconst (x := 1) dX5_readThing_102 (by decide) (pc2 := 103) rfl ?_
    refine e_bipush (x := 99) dX5_readThing_103 (by decide) (pc2 := 105) rfl ?_
    obtain ⟨y19, s20, hy19, hf⟩ := bnd2_s hf
    refine e_callVs (t_X8_takeNumber 1 99 s18 hy19) dX5_readThing_105 cv_X5_112 rfl so_36 rc_8 (by decide) (by first | exact Nat.le_of_ble_eq_true rfl | simp [rva_cat, vc_i, vc_r, vc_l, vc_n]) nn0 rfl (pc2 := 108) rfl ?_
    obtain ⟨s21, es21, hf⟩ := ltb_s hf
    refine e_putI fl_X5_215 dX5_readThing_108 (okX9_o ho3) fn_9_3 (h2 := hp s21) (by rw [es21]; rfl) (pc2 := 111) rfl ?_
    refine e_aload_n dX5_readThing_111 0 rfl rfl (pc2 := 112) rfl ?_
    refine e_getR (r := 36) fl_X5_9 dX5_readThing_112 so_69 (rs_69_0 s21.2.2) (by decide) (pc2 := 115) rfl ?_
    refine e_getsE (i := 7) (by decide) dX5_readThing_115 gs_X5_218 (pc2 := 118) rfl ?_
    obtain ⟨s23, hy22, hf⟩ := bnd_s hf
    refine e_callVn (t_X8_take 1007 (by decide) s21 hy22) dX5_readThing_118 cv_X5_122 rfl so_36 rc_8 (by decide) (by first | exact Nat.le_of_ble_eq_true rfl | simp [rva_cat, vc_i, vc_r, vc_l, vc_n]) nn0 rfl (pc2 := 121) rfl ?_
    refine e_aload_n dX5_readThing_121 2 rfl rfl (pc2 := 122) rfl ?_
    refine e_aload_n dX5_readThing_122 0 rfl rfl (pc2 := 123) rfl ?_
    refine e_getR (r := 36) fl_X5_9 dX5_readThing_123 so_69 (rs_69_0 s23.2.2) (by decide) (pc2 := 126) rfl ?_
    refine e_iconst (x := 0) dX5_readThing_126 (by decide) (pc2 := 127) rfl ?_
    refine e_bipush (x := 99) dX5_readThing_127 (by decide) (pc2 := 129) rfl ?_
    obtain ⟨y24, s25, hy24, hf⟩ := bnd2_s hf
    refine e_callVs (t_X8_takeNumber 0 99 s23 hy24) dX5_readThing_129 cv_X5_112 rfl so_36 rc_8 (by decide) (by first | exact Nat.le_of_ble_eq_true rfl | simp [rva_cat, vc_i, vc_r, vc_l, vc_n]) nn0 rfl (pc2 := 132) rfl ?_
    obtain ⟨s26, es26, hf⟩ := ltb_s hf
    refine e_putI fl_X5_221 dX5_readThing_132 (okX9_o ho3) fn_9_4 (h2 := hp s26) (by rw [es26]; rfl) (pc2 := 135) rfl ?_
    refine e_aload_n dX5_readThing_135 0 rfl rfl (pc2 := 136) rfl ?_
    refine e_getR (r := 36) fl_X5_9 dX5_readThing_136 so_69 (rs_69_0 s26.2.2) (by decide) (pc2 := 139) rfl ?_
    refine e_getsE (i := 8) (by decide) dX5_readThing_139 gs_X5_224 (pc2 := 142) rfl ?_
    obtain ⟨s28, hy27, hf⟩ := bnd_s hf
    refine e_callVn (t_X8_take 1008 (by decide) s26 hy27) dX5_readThing_142 cv_X5_122 rfl so_36 rc_8 (by decide) (by first | exact Nat.le_of_ble_eq_true rfl | simp [rva_cat, vc_i, vc_r, vc_l, vc_n]) nn0 rfl (pc2 := 145) rfl ?_
    refine e_aload_n dX5_readThing_145 2 rfl rfl (pc2 := 146) rfl ?_
    refine e_aload_n dX5_readThing_146 0 rfl rfl (pc2 := 147) rfl ?_
    refine e_getR (r := 36) fl_X5_9 dX5_readThing_147 so_69 (rs_69_0 s28.2.2) (by decide) (pc2 := 150) rfl ?_
    refine e_iconst (x := 0) dX5_readThing_150 (by decide) (pc2 := 151) rfl ?_
    refine e_bipush (x := 20) dX5_readThing_151 (by decide) (pc2 := 153) rfl ?_
    obtain ⟨y29, s30, hy29, hf⟩ := bnd2_s hf
    refine e_callVs (t_X8_takeNumber 0 20 s28 hy29) dX5_readThing_153 cv_X5_112 rfl so_36 rc_8 (by decide) (by first | exact Nat.le_of_ble_eq_true rfl | simp [rva_cat, vc_i, vc_r, vc_l, vc_n]) nn0 rfl (pc2 := 156) rfl ?_
    obtain ⟨s31, es31, hf⟩ := ltb_s hf
    refine e_putI fl_X5_227 dX5_readThing_156 (okX9_o ho3) fn_9_5 (h2 := hp s31) (by rw [es31]; rfl) (pc2 := 159) rfl ?_
    refine e_aload_n dX5_readThing_159 1 rfl rfl (pc2 := 160) rfl ?_
    refine e_dup dX5_readThing_160 rfl (pc2 := 161) rfl ?_
    refine e_getI fl_X5_177 dX5_readThing_161 (okX4_o hv1) (by decide) (pc2 := 164) rfl ?_
    refine e_iconst (x := 1) dX5_readThing_164 (by decide) (pc2 := 165) rfl ?_
    refine e_iadd dX5_readThing_165 (pc2 := 166) rfl ?_
    obtain ⟨s32, es32, hf⟩ := ltb_s hf
    refine e_putI fl_X5_177 dX5_readThing_166 (okX4_o hv1) fn_4_12 (h2 := hp s32) (by rw [es32]; rfl) (pc2 := 169) rfl ?_
    cases hf
    exact e_vret rfl dX5_readThing_169
  · have hf := if_f c1 hf
    refine e_aload_n dX5_readThing_8 0 rfl rfl (pc2 := 9) rfl ?_
    refine e_getR (r := 36) fl_X5_9 dX5_readThing_9 so_69 (rs_69_0 s.2.2) (by decide) (pc2 := 12) rfl ?_
    refine e_iconst (x := 5) dX5_readThing_12 (by decide) (pc2 := 13) rfl ?_
    obtain ⟨s34, hy33, hf⟩ := bnd_s hf
    refine e_callVn (t_X8_fail 5 s hy33) dX5_readThing_13 cv_X5_77 rfl so_36 rc_8 (by decide) (by first | exact Nat.le_of_ble_eq_true rfl | simp [rva_cat, vc_i, vc_r, vc_l, vc_n]) nn0 rfl (pc2 := 16) rfl ?_
    cases hf
    exact e_vret rfl dX5_readThing_16
abbrev DDX5_readCoach : Nat := 7
def f_X5_readCoach (v1 : Nat) (s : HS) : Option HS :=
  (if (s.1 v1 9) < 6 then bnd (f_X8_step s) fun s3 => bnd2 (f_X5_takeNewName v1 s3) fun y4 s5 => gd (inb (s3.1 v1 9) 6) (ltb (sL s5 (Rf v1 10) ((s3.1 v1 9).toNatClampNeg) y4) fun s6 => bnd (f_X8_take 1003 s6) fun s9 => bnd2 (f_X8_takeNumber 0 200 s9) fun y10 s11 => gd (inb (s9.1 v1 9) 6) (ltb (sI s11 (Rf v1 11) ((s9.1 v1 9).toNatClampNeg) y10) fun s12 => ltb (sI s12 v1 9 ((s12.1 v1 9) + 1)) fun s14 => some s14)) else bnd (f_X8_fail 5 s) fun s16 => some s16)
set_option maxRecDepth 20000 in
set_option maxHeartbeats 2000000 in
theorem t_X5_readCoach (v1 : Nat) (hv1 : okX4 v1 = true) (s : HS) {t : HS} (hf : f_X5_readCoach  v1 s = some t) : Mt DDX5_readCoach miX5_readCoach [.ref 69, .ref v1] NF (hp s) none NF (hp t) := by
  refine Mt.of (by decide +kernel) (Nat.le_refl _) (Nat.le_of_ble_eq_true rfl) ?_
  show Ev DDX5_readCoach miX5_readCoach NF none NF (hp t) 0 NF [(0, .ref 69), (1, .ref v1)] [] (hp s)
  unfold f_X5_readCoach at hf
  refine e_aload_n dX5_readCoach_0 1 rfl rfl (pc2 := 1) rfl ?_
  refine e_getI fl_X5_160 dX5_readCoach_1 (okX4_o hv1) (by decide) (pc2 := 4) rfl ?_
  refine e_bipush (x := 6) dX5_readCoach_4 (by decide) (pc2 := 6) rfl ?_
  refine e_icmp_lt (tgt := 18) dX5_readCoach_6 (by decide) (pc2 := 9) rfl (fun c1 => ?_) (fun c1 => ?_)
  · have hf := if_t c1 hf
    refine e_aload_n dX5_readCoach_18 0 rfl rfl (pc2 := 19) rfl ?_
    refine e_getR (r := 36) fl_X5_9 dX5_readCoach_19 so_69 (rs_69_0 s.2.2) (by decide) (pc2 := 22) rfl ?_
    obtain ⟨s3, hy2, hf⟩ := bnd_s hf
    refine e_callVn (t_X8_step  s hy2) dX5_readCoach_22 cv_X5_81 rfl so_36 rc_8 (by decide) (by first | exact Nat.le_of_ble_eq_true rfl | simp [rva_cat, vc_i, vc_r, vc_l, vc_n]) nn0 rfl (pc2 := 25) rfl ?_
    refine e_aload_n dX5_readCoach_25 1 rfl rfl (pc2 := 26) rfl ?_
    refine e_getR (r := Rf v1 10) fl_X5_163 dX5_readCoach_26 (okX4_o hv1) (okX4_R hv1) (isA_ne (okX4_coachName hv1)) (pc2 := 29) rfl ?_
    refine e_aload_n dX5_readCoach_29 1 rfl rfl (pc2 := 30) rfl ?_
    refine e_getI fl_X5_160 dX5_readCoach_30 (okX4_o hv1) (by decide) (pc2 := 33) rfl ?_
    refine e_aload_n dX5_readCoach_33 0 rfl rfl (pc2 := 34) rfl ?_
    refine e_aload_n dX5_readCoach_34 1 rfl rfl (pc2 := 35) rfl ?_
    obtain ⟨y4, s5, hy4, hf⟩ := bnd2_s hf
    refine e_callVs (t_X5_takeNewName v1 hv1 s3 hy4) dX5_readCoach_35 cv_X5_167 rfl so_69 rc_5 (by decide) (by first | exact Nat.le_of_ble_eq_true rfl | simp [rva_cat, vc_i, vc_r, vc_l, vc_n]) nn0 rfl (pc2 := 38) rfl ?_
    obtain ⟨g7, hf⟩ := gd_some hf
    obtain ⟨s6, es6, hf⟩ := ltb_s hf
    refine e_last dX5_readCoach_38 (okX4_coachName hv1) (inb_v g7) (h2 := hp s6) (by rw [es6]; rfl) (pc2 := 39) rfl ?_
    refine e_aload_n dX5_readCoach_39 0 rfl rfl (pc2 := 40) rfl ?_
    refine e_getR (r := 36) fl_X5_9 dX5_readCoach_40 so_69 (rs_69_0 s6.2.2) (by decide) (pc2 := 43) rfl ?_
    refine e_getsE (i := 3) (by decide) dX5_readCoach_43 gs_X5_171 (pc2 := 46) rfl ?_
    obtain ⟨s9, hy8, hf⟩ := bnd_s hf
    refine e_callVn (t_X8_take 1003 (by decide) s6 hy8) dX5_readCoach_46 cv_X5_122 rfl so_36 rc_8 (by decide) (by first | exact Nat.le_of_ble_eq_true rfl | simp [rva_cat, vc_i, vc_r, vc_l, vc_n]) nn0 rfl (pc2 := 49) rfl ?_
    refine e_aload_n dX5_readCoach_49 1 rfl rfl (pc2 := 50) rfl ?_
    refine e_getR (r := Rf v1 11) fl_X5_174 dX5_readCoach_50 (okX4_o hv1) (okX4_R hv1) (isA_ne (okX4_yards hv1)) (pc2 := 53) rfl ?_
    refine e_aload_n dX5_readCoach_53 1 rfl rfl (pc2 := 54) rfl ?_
    refine e_getI fl_X5_160 dX5_readCoach_54 (okX4_o hv1) (by decide) (pc2 := 57) rfl ?_
    refine e_aload_n dX5_readCoach_57 0 rfl rfl (pc2 := 58) rfl ?_
    refine e_getR (r := 36) fl_X5_9 dX5_readCoach_58 so_69 (rs_69_0 s9.2.2) (by decide) (pc2 := 61) rfl ?_
    refine e_iconst (x := 0) dX5_readCoach_61 (by decide) (pc2 := 62) rfl ?_
    refine e_sipush (x := 200) dX5_readCoach_62 (by decide) (pc2 := 65) rfl ?_
    obtain ⟨y10, s11, hy10, hf⟩ := bnd2_s hf
    refine e_callVs (t_X8_takeNumber 0 200 s9 hy10) dX5_readCoach_65 cv_X5_112 rfl so_36 rc_8 (by decide) (by first | exact Nat.le_of_ble_eq_true rfl | simp [rva_cat, vc_i, vc_r, vc_l, vc_n]) nn0 rfl (pc2 := 68) rfl ?_
    obtain ⟨g13, hf⟩ := gd_some hf
    obtain ⟨s12, es12, hf⟩ := ltb_s hf
    refine e_iast dX5_readCoach_68 (okX4_yards hv1) (inb_v g13) (h2 := hp s12) (by rw [es12]; rfl) (pc2 := 69) rfl ?_
    refine e_aload_n dX5_readCoach_69 1 rfl rfl (pc2 := 70) rfl ?_
    refine e_dup dX5_readCoach_70 rfl (pc2 := 71) rfl ?_
    refine e_getI fl_X5_160 dX5_readCoach_71 (okX4_o hv1) (by decide) (pc2 := 74) rfl ?_
    refine e_iconst (x := 1) dX5_readCoach_74 (by decide) (pc2 := 75) rfl ?_
    refine e_iadd dX5_readCoach_75 (pc2 := 76) rfl ?_
    obtain ⟨s14, es14, hf⟩ := ltb_s hf
    refine e_putI fl_X5_160 dX5_readCoach_76 (okX4_o hv1) fn_4_9 (h2 := hp s14) (by rw [es14]; rfl) (pc2 := 79) rfl ?_
    cases hf
    exact e_vret rfl dX5_readCoach_79
  · have hf := if_f c1 hf
    refine e_aload_n dX5_readCoach_9 0 rfl rfl (pc2 := 10) rfl ?_
    refine e_getR (r := 36) fl_X5_9 dX5_readCoach_10 so_69 (rs_69_0 s.2.2) (by decide) (pc2 := 13) rfl ?_
    refine e_iconst (x := 5) dX5_readCoach_13 (by decide) (pc2 := 14) rfl ?_
    obtain ⟨s16, hy15, hf⟩ := bnd_s hf
    refine e_callVn (t_X8_fail 5 s hy15) dX5_readCoach_14 cv_X5_77 rfl so_36 rc_8 (by decide) (by first | exact Nat.le_of_ble_eq_true rfl | simp [rva_cat, vc_i, vc_r, vc_l, vc_n]) nn0 rfl (pc2 := 17) rfl ?_
    cases hf
    exact e_vret rfl dX5_readCoach_17
abbrev DDX5_readLine : Nat := 55
def f_X5_readLine_j161  (s : HS) : Option HS :=
  bnd (f_X8_takeSign 59 s) fun s9 => some s9
set_option maxRecDepth 20000 in
set_option maxHeartbeats 2000000 in
theorem t_X5_readLine_j161  (s : HS) {t : HS}  (hf : f_X5_readLine_j161 s = some t) : Ev DDX5_readLine miX5_readLine NF none NF (hp t) 161 NF [(0, .ref 69)] [] (hp s) := by
  refine e_aload_n dX5_readLine_161 0 rfl rfl (pc2 := 162) rfl ?_
  refine e_getR (r := 36) fl_X5_9 dX5_readLine_162 so_69 (rs_69_0 s.2.2) (by decide) (pc2 := 165) rfl ?_
  refine e_bipush (x := 59) dX5_readLine_165 (by decide) (pc2 := 167) rfl ?_
  obtain ⟨s9, hy8, hf⟩ := bnd_s hf
  refine e_callVn (t_X8_takeSign 59 s hy8) dX5_readLine_167 cv_X5_105 rfl so_36 rc_8 (by decide) (by first | exact Nat.le_of_ble_eq_true rfl | simp [rva_cat, vc_i, vc_r, vc_l, vc_n]) nn0 rfl (pc2 := 170) rfl ?_
  cases hf
  exact e_vret rfl dX5_readLine_170
def f_X5_readLine (v1 : Nat) (s : HS) : Option HS :=
  gd (wob (s.2.2.2.2.2.2)) ((if (s.2.2.2.2.2.2) = 1002 then bnd (f_X5_readCoach v1 s) fun s35 => f_X5_readLine_j161 s35 else (if (s.2.2.2.2.2.2) = 1004 then bnd (f_X5_readThing v1 s) fun s33 => f_X5_readLine_j161 s33 else (if (s.2.2.2.2.2.2) = 1009 then bnd (f_X5_readBuyer v1 s) fun s31 => f_X5_readLine_j161 s31 else (if (s.2.2.2.2.2.2) = 0 then bnd (f_X8_fail 1 s) fun s7 => f_X5_readLine_j161 s7 else gd (woc (s.2.2.2.2.2.2)) ((if 0 < (onceL.getD (s.2.2.2.2.2.2 - 1000) 0) then gd (woc (s.2.2.2.2.2.2)) ((if ((s.1 69 2) &&& (onceL.getD (s.2.2.2.2.2.2 - 1000) 0)) = 0 then gd (woc (s.2.2.2.2.2.2)) (ltb (sI s 69 2 ((s.1 69 2) ||| (onceL.getD (s.2.2.2.2.2.2 - 1000) 0))) fun s15 => bnd (f_X8_step s15) fun s17 => (if (s.2.2.2.2.2.2) = 1018 then bnd (f_X5_readLate v1 s17) fun s25 => f_X5_readLine_j161 s25 else (if (s.2.2.2.2.2.2) = 1019 then bnd (f_X3_readWhole (f_X3_readPart 8) (Rf v1 8) 0 s17) fun s23 => f_X5_readLine_j161 s23 else bnd (f_X5_readOnce v1 (s.2.2.2.2.2.2) s17) fun s21 => f_X5_readLine_j161 s21))) else bnd (f_X8_fail 3 s) fun s27 => f_X5_readLine_j161 s27)) else bnd (f_X8_fail 1 s) fun s29 => f_X5_readLine_j161 s29)))))))
set_option maxRecDepth 20000 in
set_option maxHeartbeats 2000000 in
theorem t_X5_readLine (v1 : Nat) (hv1 : okX4 v1 = true) (s : HS) {t : HS} (hf : f_X5_readLine  v1 s = some t) : Mt DDX5_readLine miX5_readLine [.ref 69, .ref v1] NF (hp s) none NF (hp t) := by
  refine Mt.of (by decide +kernel) (Nat.le_refl _) (Nat.le_of_ble_eq_true rfl) ?_
  show Ev DDX5_readLine miX5_readLine NF none NF (hp t) 0 NF [(0, .ref 69), (1, .ref v1)] [] (hp s)
  unfold f_X5_readLine at hf
  refine e_aload_n dX5_readLine_0 0 rfl rfl (pc2 := 1) rfl ?_
  refine e_getR (r := 36) fl_X5_9 dX5_readLine_1 so_69 (rs_69_0 s.2.2) (by decide) (pc2 := 4) rfl ?_
  obtain ⟨g1, hf⟩ := gd_some hf
  refine e_getQ (w := s.2.2.2.2.2.2) fl_X5_50 dX5_readLine_4 so_36 rfl (pc2 := 7) rfl ?_
  refine e_astore_nQ (w := s.2.2.2.2.2.2) dX5_readLine_7 rfl (by decide) (ls' := [(0, .ref 69), (1, .ref v1), (2, rva (s.2.2.2.2.2.2))]) [1, 2, 0] (by first | rfl | simp [lv_pick, rva_cat, vc_i, vc_r, vc_l, vc_n]) (pc2 := 8) rfl ?_
  refine e_aload_nQ (w := s.2.2.2.2.2.2) dX5_readLine_8 2 rfl rfl (pc2 := 9) rfl ?_
  refine e_getsE (i := 2) (by decide) dX5_readLine_9 gs_X5_54 (pc2 := 12) rfl ?_
  refine e_acmp_ne (tgt := 23) dX5_readLine_12 (by decide) (w1 := s.2.2.2.2.2.2) (w2 := 1002) g1 (by decide) (pc2 := 15) rfl (fun c2 => ?_) (fun c2 => ?_)
  · have hf := if_f c2 hf
    refine e_aload_nQ (w := s.2.2.2.2.2.2) dX5_readLine_23 2 rfl rfl (pc2 := 24) rfl ?_
    refine e_getsE (i := 4) (by decide) dX5_readLine_24 gs_X5_62 (pc2 := 27) rfl ?_
    refine e_acmp_ne (tgt := 38) dX5_readLine_27 (by decide) (w1 := s.2.2.2.2.2.2) (w2 := 1004) g1 (by decide) (pc2 := 30) rfl (fun c3 => ?_) (fun c3 => ?_)
    · have hf := if_f c3 hf
      refine e_aload_nQ (w := s.2.2.2.2.2.2) dX5_readLine_38 2 rfl rfl (pc2 := 39) rfl ?_
      refine e_getsE (i := 9) (by decide) dX5_readLine_39 gs_X5_68 (pc2 := 42) rfl ?_
      refine e_acmp_ne (tgt := 53) dX5_readLine_42 (by decide) (w1 := s.2.2.2.2.2.2) (w2 := 1009) g1 (by decide) (pc2 := 45) rfl (fun c4 => ?_) (fun c4 => ?_)
      · have hf := if_f c4 hf
        refine e_aload_nQ (w := s.2.2.2.2.2.2) dX5_readLine_53 2 rfl rfl (pc2 := 54) rfl ?_
        refine e_ifnullQ (tgt := 64) dX5_readLine_54 (by decide) (w := s.2.2.2.2.2.2) (pc2 := 57) rfl (fun c5 => ?_) (fun c5 => ?_)
        · have hf := if_t c5 hf
          refine e_aload_n dX5_readLine_64 0 rfl rfl (pc2 := 65) rfl ?_
          refine e_getR (r := 36) fl_X5_9 dX5_readLine_65 so_69 (rs_69_0 s.2.2) (by decide) (pc2 := 68) rfl ?_
          refine e_iconst (x := 1) dX5_readLine_68 (by decide) (pc2 := 69) rfl ?_
          obtain ⟨s7, hy6, hf⟩ := bnd_s hf
          refine e_callVn (t_X8_fail 1 s hy6) dX5_readLine_69 cv_X5_77 rfl so_36 rc_8 (by decide) (by first | exact Nat.le_of_ble_eq_true rfl | simp [rva_cat, vc_i, vc_r, vc_l, vc_n]) nn0 rfl (pc2 := 72) rfl ?_
          refine e_goto (tgt := 161) dX5_readLine_72 (by decide) ?_
          refine ev_sub [0] rfl ?_
          exact t_X5_readLine_j161 s7 hf
        · have hf := if_f c5 hf
          refine e_aload_nQ (w := s.2.2.2.2.2.2) dX5_readLine_57 2 rfl rfl (pc2 := 58) rfl ?_
          obtain ⟨g10, hf⟩ := gd_some hf
          refine e_getEoQ (w := s.2.2.2.2.2.2) g10 dX5_readLine_58 eo_X5_74 (pc2 := 61) rfl ?_
          refine e_if_gt (tgt := 75) dX5_readLine_61 (by decide) (pc2 := 64) rfl (fun c11 => ?_) (fun c11 => ?_)
          · have hf := if_t c11 hf
            refine e_aload_n dX5_readLine_75 0 rfl rfl (pc2 := 76) rfl ?_
            refine e_getI fl_X5_29 dX5_readLine_76 so_69 (by decide) (pc2 := 79) rfl ?_
            refine e_aload_nQ (w := s.2.2.2.2.2.2) dX5_readLine_79 2 rfl rfl (pc2 := 80) rfl ?_
            obtain ⟨g12, hf⟩ := gd_some hf
            refine e_getEoQ (w := s.2.2.2.2.2.2) g12 dX5_readLine_80 eo_X5_74 (pc2 := 83) rfl ?_
            refine e_iand dX5_readLine_83 (pc2 := 84) rfl ?_
            refine e_if_eq (tgt := 98) dX5_readLine_84 (by decide) (pc2 := 87) rfl (fun c13 => ?_) (fun c13 => ?_)
            · have hf := if_t c13 hf
              refine e_aload_n dX5_readLine_98 0 rfl rfl (pc2 := 99) rfl ?_
              refine e_dup dX5_readLine_99 rfl (pc2 := 100) rfl ?_
              refine e_getI fl_X5_29 dX5_readLine_100 so_69 (by decide) (pc2 := 103) rfl ?_
              refine e_aload_nQ (w := s.2.2.2.2.2.2) dX5_readLine_103 2 rfl rfl (pc2 := 104) rfl ?_
              obtain ⟨g14, hf⟩ := gd_some hf
              refine e_getEoQ (w := s.2.2.2.2.2.2) g14 dX5_readLine_104 eo_X5_74 (pc2 := 107) rfl ?_
              refine e_ior dX5_readLine_107 (pc2 := 108) rfl ?_
              obtain ⟨s15, es15, hf⟩ := ltb_s hf
              refine e_putI fl_X5_29 dX5_readLine_108 so_69 fn_5_2 (h2 := hp s15) (by rw [es15]; rfl) (pc2 := 111) rfl ?_
              refine e_aload_n dX5_readLine_111 0 rfl rfl (pc2 := 112) rfl ?_
              refine e_getR (r := 36) fl_X5_9 dX5_readLine_112 so_69 (rs_69_0 s15.2.2) (by decide) (pc2 := 115) rfl ?_
              obtain ⟨s17, hy16, hf⟩ := bnd_s hf
              refine e_callVn (t_X8_step  s15 hy16) dX5_readLine_115 cv_X5_81 rfl so_36 rc_8 (by decide) (by first | exact Nat.le_of_ble_eq_true rfl | simp [rva_cat, vc_i, vc_r, vc_l, vc_n]) nn0 rfl (pc2 := 118) rfl ?_
              refine e_aload_nQ (w := s.2.2.2.2.2.2) dX5_readLine_118 2 rfl rfl (pc2 := 119) rfl ?_
              refine e_getsE (i := 18) (by decide) dX5_readLine_119 gs_X5_84 (pc2 := 122) rfl ?_
              refine e_acmp_ne (tgt := 133) dX5_readLine_122 (by decide) (w1 := s.2.2.2.2.2.2) (w2 := 1018) g1 (by decide) (pc2 := 125) rfl (fun c18 => ?_) (fun c18 => ?_)
              · have hf := if_f c18 hf
                refine e_aload_nQ (w := s.2.2.2.2.2.2) dX5_readLine_133 2 rfl rfl (pc2 := 134) rfl ?_
                refine e_getsE (i := 19) (by decide) dX5_readLine_134 gs_X5_90 (pc2 := 137) rfl ?_
                refine e_acmp_ne (tgt := 155) dX5_readLine_137 (by decide) (w1 := s.2.2.2.2.2.2) (w2 := 1019) g1 (by decide) (pc2 := 140) rfl (fun c19 => ?_) (fun c19 => ?_)
                · have hf := if_f c19 hf
                  refine e_aload_n dX5_readLine_155 0 rfl rfl (pc2 := 156) rfl ?_
                  refine e_aload_n dX5_readLine_156 1 rfl rfl (pc2 := 157) rfl ?_
                  refine e_aload_nQ (w := s.2.2.2.2.2.2) dX5_readLine_157 2 rfl rfl (pc2 := 158) rfl ?_
                  obtain ⟨s21, hy20, hf⟩ := bnd_s hf
                  refine e_callVn (t_X5_readOnce v1 hv1 (s.2.2.2.2.2.2) g1 s17 hy20) dX5_readLine_158 cv_X5_101 rfl so_69 rc_5 (by decide) (by first | exact Nat.le_of_ble_eq_true rfl | simp [rva_cat, vc_i, vc_r, vc_l, vc_n]) nn0 rfl (pc2 := 161) rfl ?_
                  refine ev_sub [0] rfl ?_
                  exact t_X5_readLine_j161 s21 hf
                · have hf := if_t c19 hf
                  refine e_aload_n dX5_readLine_140 0 rfl rfl (pc2 := 141) rfl ?_
                  refine e_getR (r := 70) fl_X5_20 dX5_readLine_141 so_69 (rs_69_1 s17.2.2) (by decide) (pc2 := 144) rfl ?_
                  refine e_aload_n dX5_readLine_144 1 rfl rfl (pc2 := 145) rfl ?_
                  refine e_getR (r := Rf v1 8) fl_X5_93 dX5_readLine_145 (okX4_o hv1) (okX4_R hv1) (okX2_ne (okX4_order hv1)) (pc2 := 148) rfl ?_
                  refine e_iconst (x := 0) dX5_readLine_148 (by decide) (pc2 := 149) rfl ?_
                  obtain ⟨s23, hy22, hf⟩ := bnd_s hf
                  refine e_callVNn (t_X3_readWhole (f_X3_readPart 8) 50 (by decide) (fun v1 h v2 s => t_X3_readPart 8 v1 h v2 s) (Rf v1 8) (okX4_order hv1) 0 s17 hy22) dX5_readLine_149 cn_X5_97 (by simp [NWL, RX3, RX5, yX3_readWhole, yX5_readLine]) rfl so_70 rc_3 (by decide) (by first | exact Nat.le_of_ble_eq_true rfl | simp [rva_cat, vc_i, vc_r, vc_l, vc_n]) nn0 rfl (pc2 := 152) rfl ?_
                  refine e_goto (tgt := 161) dX5_readLine_152 (by decide) ?_
                  refine ev_sub [0] rfl ?_
                  exact t_X5_readLine_j161 s23 hf
              · have hf := if_t c18 hf
                refine e_aload_n dX5_readLine_125 0 rfl rfl (pc2 := 126) rfl ?_
                refine e_aload_n dX5_readLine_126 1 rfl rfl (pc2 := 127) rfl ?_
                obtain ⟨s25, hy24, hf⟩ := bnd_s hf
                refine e_callVn (t_X5_readLate v1 hv1 s17 hy24) dX5_readLine_127 cv_X5_87 rfl so_69 rc_5 (by decide) (by first | exact Nat.le_of_ble_eq_true rfl | simp [rva_cat, vc_i, vc_r, vc_l, vc_n]) nn0 rfl (pc2 := 130) rfl ?_
                refine e_goto (tgt := 161) dX5_readLine_130 (by decide) ?_
                refine ev_sub [0] rfl ?_
                exact t_X5_readLine_j161 s25 hf
            · have hf := if_f c13 hf
              refine e_aload_n dX5_readLine_87 0 rfl rfl (pc2 := 88) rfl ?_
              refine e_getR (r := 36) fl_X5_9 dX5_readLine_88 so_69 (rs_69_0 s.2.2) (by decide) (pc2 := 91) rfl ?_
              refine e_iconst (x := 3) dX5_readLine_91 (by decide) (pc2 := 92) rfl ?_
              obtain ⟨s27, hy26, hf⟩ := bnd_s hf
              refine e_callVn (t_X8_fail 3 s hy26) dX5_readLine_92 cv_X5_77 rfl so_36 rc_8 (by decide) (by first | exact Nat.le_of_ble_eq_true rfl | simp [rva_cat, vc_i, vc_r, vc_l, vc_n]) nn0 rfl (pc2 := 95) rfl ?_
              refine e_goto (tgt := 161) dX5_readLine_95 (by decide) ?_
              refine ev_sub [0] rfl ?_
              exact t_X5_readLine_j161 s27 hf
          · have hf := if_f c11 hf
            refine e_aload_n dX5_readLine_64 0 rfl rfl (pc2 := 65) rfl ?_
            refine e_getR (r := 36) fl_X5_9 dX5_readLine_65 so_69 (rs_69_0 s.2.2) (by decide) (pc2 := 68) rfl ?_
            refine e_iconst (x := 1) dX5_readLine_68 (by decide) (pc2 := 69) rfl ?_
            obtain ⟨s29, hy28, hf⟩ := bnd_s hf
            refine e_callVn (t_X8_fail 1 s hy28) dX5_readLine_69 cv_X5_77 rfl so_36 rc_8 (by decide) (by first | exact Nat.le_of_ble_eq_true rfl | simp [rva_cat, vc_i, vc_r, vc_l, vc_n]) nn0 rfl (pc2 := 72) rfl ?_
            refine e_goto (tgt := 161) dX5_readLine_72 (by decide) ?_
            refine ev_sub [0] rfl ?_
            exact t_X5_readLine_j161 s29 hf
      · have hf := if_t c4 hf
        refine e_aload_n dX5_readLine_45 0 rfl rfl (pc2 := 46) rfl ?_
        refine e_aload_n dX5_readLine_46 1 rfl rfl (pc2 := 47) rfl ?_
        obtain ⟨s31, hy30, hf⟩ := bnd_s hf
        refine e_callVn (t_X5_readBuyer v1 hv1 s hy30) dX5_readLine_47 cv_X5_71 rfl so_69 rc_5 (by decide) (by first | exact Nat.le_of_ble_eq_true rfl | simp [rva_cat, vc_i, vc_r, vc_l, vc_n]) nn0 rfl (pc2 := 50) rfl ?_
        refine e_goto (tgt := 161) dX5_readLine_50 (by decide) ?_
        refine ev_sub [0] rfl ?_
        exact t_X5_readLine_j161 s31 hf
    · have hf := if_t c3 hf
      refine e_aload_n dX5_readLine_30 0 rfl rfl (pc2 := 31) rfl ?_
      refine e_aload_n dX5_readLine_31 1 rfl rfl (pc2 := 32) rfl ?_
      obtain ⟨s33, hy32, hf⟩ := bnd_s hf
      refine e_callVn (t_X5_readThing v1 hv1 s hy32) dX5_readLine_32 cv_X5_65 rfl so_69 rc_5 (by decide) (by first | exact Nat.le_of_ble_eq_true rfl | simp [rva_cat, vc_i, vc_r, vc_l, vc_n]) nn0 rfl (pc2 := 35) rfl ?_
      refine e_goto (tgt := 161) dX5_readLine_35 (by decide) ?_
      refine ev_sub [0] rfl ?_
      exact t_X5_readLine_j161 s33 hf
  · have hf := if_t c2 hf
    refine e_aload_n dX5_readLine_15 0 rfl rfl (pc2 := 16) rfl ?_
    refine e_aload_n dX5_readLine_16 1 rfl rfl (pc2 := 17) rfl ?_
    obtain ⟨s35, hy34, hf⟩ := bnd_s hf
    refine e_callVn (t_X5_readCoach v1 hv1 s hy34) dX5_readLine_17 cv_X5_59 rfl so_69 rc_5 (by decide) (by first | exact Nat.le_of_ble_eq_true rfl | simp [rva_cat, vc_i, vc_r, vc_l, vc_n]) nn0 rfl (pc2 := 20) rfl ?_
    refine e_goto (tgt := 161) dX5_readLine_20 (by decide) ?_
    refine ev_sub [0] rfl ?_
    exact t_X5_readLine_j161 s35 hf
abbrev DDX5_read : Nat := 56
def f_X5_read_l18b (v1 : Nat) (v2 : Int32) (k18 : Int32 → HS → Option (Int32 × HS)) (s : HS) : Option (Int32 × HS) :=
  (if 1000 ≤ v2 then bnd2 (f_X8_finish s) fun y7 s8 => some (y7, s8) else (if (f_X8_goesOn s) = 0 then bnd2 (f_X8_finish s) fun y10 s11 => some (y10, s11) else bnd (f_X5_readLine v1 s) fun s13 => ltb (v2 + 1) fun x14 => k18 x14 s13))
set_option maxRecDepth 20000 in
set_option maxHeartbeats 2000000 in
theorem t_X5_read_l18b (v1 : Nat) (v2 : Int32) (hv1 : okX4 v1 = true) (s : HS) {x : Int32} {t : HS} (k18 : Int32 → HS → Option (Int32 × HS)) (hk18 : ∀ (a2 : Int32) (s : HS), k18 a2 s = some (x, t) → Ev DDX5_read miX5_read NF (some (.int x)) NF (hp t) 18 NF [(0, .ref 69), (1, .ref v1), (2, .int a2)] [] (hp s)) (hf : f_X5_read_l18b v1 v2 k18 s = some (x, t)) : Ev DDX5_read miX5_read NF (some (.int x)) NF (hp t) 18 NF [(0, .ref 69), (1, .ref v1), (2, .int v2)] [] (hp s) := by
  refine e_iload_n dX5_read_18 2 rfl rfl (pc2 := 19) rfl ?_
  refine e_sipush (x := 1000) dX5_read_19 (by decide) (pc2 := 22) rfl ?_
  refine e_icmp_ge (tgt := 46) dX5_read_22 (by decide) (pc2 := 25) rfl (fun c6 => ?_) (fun c6 => ?_)
  · have hf := if_t c6 hf
    refine e_aload_n dX5_read_46 0 rfl rfl (pc2 := 47) rfl ?_
    refine e_getR (r := 36) fl_X5_9 dX5_read_47 so_69 (rs_69_0 s.2.2) (by decide) (pc2 := 50) rfl ?_
    obtain ⟨y7, s8, hy7, hf⟩ := bnd2_s hf
    refine e_callVs (t_X8_finish  s hy7) dX5_read_50 cv_X5_46 rfl so_36 rc_8 (by decide) (by first | exact Nat.le_of_ble_eq_true rfl | simp [rva_cat, vc_i, vc_r, vc_l, vc_n]) nn0 rfl (pc2 := 53) rfl ?_
    cases hf
    exact e_iret rfl dX5_read_53
  · have hf := if_f c6 hf
    refine e_aload_n dX5_read_25 0 rfl rfl (pc2 := 26) rfl ?_
    refine e_getR (r := 36) fl_X5_9 dX5_read_26 so_69 (rs_69_0 s.2.2) (by decide) (pc2 := 29) rfl ?_
    refine e_callVs (t_X8_goesOn  s rfl) dX5_read_29 cv_X5_38 rfl so_36 rc_8 (by decide) (by first | exact Nat.le_of_ble_eq_true rfl | simp [rva_cat, vc_i, vc_r, vc_l, vc_n]) nn0 rfl (pc2 := 32) rfl ?_
    refine e_if_eq (tgt := 46) dX5_read_32 (by decide) (pc2 := 35) rfl (fun c9 => ?_) (fun c9 => ?_)
    · have hf := if_t c9 hf
      refine e_aload_n dX5_read_46 0 rfl rfl (pc2 := 47) rfl ?_
      refine e_getR (r := 36) fl_X5_9 dX5_read_47 so_69 (rs_69_0 s.2.2) (by decide) (pc2 := 50) rfl ?_
      obtain ⟨y10, s11, hy10, hf⟩ := bnd2_s hf
      refine e_callVs (t_X8_finish  s hy10) dX5_read_50 cv_X5_46 rfl so_36 rc_8 (by decide) (by first | exact Nat.le_of_ble_eq_true rfl | simp [rva_cat, vc_i, vc_r, vc_l, vc_n]) nn0 rfl (pc2 := 53) rfl ?_
      cases hf
      exact e_iret rfl dX5_read_53
    · have hf := if_f c9 hf
      refine e_aload_n dX5_read_35 0 rfl rfl (pc2 := 36) rfl ?_
      refine e_aload_n dX5_read_36 1 rfl rfl (pc2 := 37) rfl ?_
      obtain ⟨s13, hy12, hf⟩ := bnd_s hf
      refine e_callVn (t_X5_readLine v1 hv1 s hy12) dX5_read_37 cv_X5_42 rfl so_69 rc_5 (by decide) (by first | exact Nat.le_of_ble_eq_true rfl | simp [rva_cat, vc_i, vc_r, vc_l, vc_n]) nn0 rfl (pc2 := 40) rfl ?_
      obtain ⟨x14, ex14, hf⟩ := ltb_s hf
      refine e_iinc dX5_read_40 2 rfl (c9 := 1) (by decide) ex14.symm (by decide) (ls' := [(0, .ref 69), (1, .ref v1), (2, .int x14)]) [1, 2, 0] rfl (pc2 := 43) rfl ?_
      refine e_goto (tgt := 18) dX5_read_43 (by decide) ?_
      exact hk18 x14 s13 hf
def f_X5_read_l18 (v1 : Nat) : Nat → Int32 → HS → Option (Int32 × HS)
  | 0, _, _ => none
  | n + 1, v2, s => f_X5_read_l18b v1 v2 (f_X5_read_l18 v1 n)  s
set_option maxRecDepth 20000 in
set_option maxHeartbeats 2000000 in
theorem t_X5_read_l18 (v1 : Nat) (hv1 : okX4 v1 = true) {x : Int32} {t : HS}  : ∀ (n : Nat) (v2 : Int32) (s : HS), f_X5_read_l18 v1 n v2 s = some (x, t) → Ev DDX5_read miX5_read NF (some (.int x)) NF (hp t) 18 NF [(0, .ref 69), (1, .ref v1), (2, .int v2)] [] (hp s) := by
  intro n
  induction n with
  | zero =>
    intro v2 s hf
    have hf : none = some (x, t) := hf
    cases hf
  | succ n ih =>
    intro v2 s hf
    exact t_X5_read_l18b v1 v2 hv1 s _ ih  hf
def f_X5_read (v1 : Nat) (s : HS) : Option (Int32 × HS) :=
  bnd (f_X4_clear v1 s) fun s2 => ltb (sI s2 69 2 0) fun s3 => bnd (f_X8_rewind s3) fun s5 => f_X5_read_l18 v1 FU 0 s5
set_option maxRecDepth 20000 in
set_option maxHeartbeats 2000000 in
theorem t_X5_read (v1 : Nat) (hv1 : okX4 v1 = true) (s : HS) {x : Int32} {t : HS} (hf : f_X5_read  v1 s = some (x, t)) : Mt DDX5_read miX5_read [.ref 69, .ref v1] NF (hp s) (some (.int x)) NF (hp t) := by
  refine Mt.of (by decide +kernel) (Nat.le_refl _) (Nat.le_of_ble_eq_true rfl) ?_
  show Ev DDX5_read miX5_read NF (some (.int x)) NF (hp t) 0 NF [(0, .ref 69), (1, .ref v1)] [] (hp s)
  unfold f_X5_read at hf
  refine e_aload_n dX5_read_0 1 rfl rfl (pc2 := 1) rfl ?_
  obtain ⟨s2, hy1, hf⟩ := bnd_s hf
  refine e_callVn (t_X4_clear v1 hv1 s hy1) dX5_read_1 cv_X5_24 rfl (okX4_o hv1) rc_4 (by decide) (by first | exact Nat.le_of_ble_eq_true rfl | simp [rva_cat, vc_i, vc_r, vc_l, vc_n]) nn0 rfl (pc2 := 4) rfl ?_
  refine e_aload_n dX5_read_4 0 rfl rfl (pc2 := 5) rfl ?_
  refine e_iconst (x := 0) dX5_read_5 (by decide) (pc2 := 6) rfl ?_
  obtain ⟨s3, es3, hf⟩ := ltb_s hf
  refine e_putI fl_X5_29 dX5_read_6 so_69 fn_5_2 (h2 := hp s3) (by rw [es3]; rfl) (pc2 := 9) rfl ?_
  refine e_aload_n dX5_read_9 0 rfl rfl (pc2 := 10) rfl ?_
  refine e_getR (r := 36) fl_X5_9 dX5_read_10 so_69 (rs_69_0 s3.2.2) (by decide) (pc2 := 13) rfl ?_
  obtain ⟨s5, hy4, hf⟩ := bnd_s hf
  refine e_callVn (t_X8_rewind  s3 hy4) dX5_read_13 cv_X5_33 rfl so_36 rc_8 (by decide) (by first | exact Nat.le_of_ble_eq_true rfl | simp [rva_cat, vc_i, vc_r, vc_l, vc_n]) nn0 rfl (pc2 := 16) rfl ?_
  refine e_iconst (x := 0) dX5_read_16 (by decide) (pc2 := 17) rfl ?_
  refine e_istore_n dX5_read_17 rfl (by decide) rfl (ls' := [(0, .ref 69), (1, .ref v1), (2, .int 0)]) [1, 2, 0] rfl (pc2 := 18) rfl ?_
  refine t_X5_read_l18 v1 hv1 FU 0 s5 hf
abbrev DDX6_layOut : Nat := 1
def f_X6_layOut (v1 : Nat) (v2 : Nat) (s : HS) : Option HS :=
  ltb (sQ3 s v1) fun s1 => ltb (sQ4 s1 v2) fun s2 => ltb (sI s2 73 2 0) fun s3 => ltb (sI s3 73 3 0) fun s4 => ltb (sI s4 73 4 (-1)) fun s5 => ltb (sI s5 73 5 (-1)) fun s6 => ltb (sI s6 73 6 0) fun s7 => ltb (sI s7 73 7 0) fun s8 => some s8
set_option maxRecDepth 20000 in
set_option maxHeartbeats 2000000 in
theorem t_X6_layOut (v1 : Nat) (hv1 : okX4 v1 = true) (v2 : Nat) (hv2 : okX7 v2 = true) (s : HS) {t : HS} (hf : f_X6_layOut  v1 v2 s = some t) : Mt DDX6_layOut miX6_layOut [.ref 73, .ref v1, .ref v2] NF (hp s) none NF (hp t) := by
  refine Mt.of (by decide +kernel) (Nat.le_refl _) (Nat.le_of_ble_eq_true rfl) ?_
  show Ev DDX6_layOut miX6_layOut NF none NF (hp t) 0 NF [(0, .ref 73), (1, .ref v1), (2, .ref v2)] [] (hp s)
  unfold f_X6_layOut at hf
  refine e_aload_n dX6_layOut_0 0 rfl rfl (pc2 := 1) rfl ?_
  refine e_aload_n dX6_layOut_1 1 rfl rfl (pc2 := 2) rfl ?_
  obtain ⟨s1, es1, hf⟩ := ltb_s hf
  refine e_putR fl_X6_33 dX6_layOut_2 so_73 fn_6_0 fr_6_0 (okX4_ne hv1) (h2 := hp s1) (by rw [es1]; exact hp_q3) (pc2 := 5) rfl ?_
  refine e_aload_n dX6_layOut_5 0 rfl rfl (pc2 := 6) rfl ?_
  refine e_aload_n dX6_layOut_6 2 rfl rfl (pc2 := 7) rfl ?_
  obtain ⟨s2, es2, hf⟩ := ltb_s hf
  refine e_putR fl_X6_37 dX6_layOut_7 so_73 fn_6_1 fr_6_1 (okX7_ne hv2) (h2 := hp s2) (by rw [es2]; exact hp_q4) (pc2 := 10) rfl ?_
  refine e_aload_n dX6_layOut_10 0 rfl rfl (pc2 := 11) rfl ?_
  refine e_iconst (x := 0) dX6_layOut_11 (by decide) (pc2 := 12) rfl ?_
  obtain ⟨s3, es3, hf⟩ := ltb_s hf
  refine e_putI fl_X6_41 dX6_layOut_12 so_73 fn_6_2 (h2 := hp s3) (by rw [es3]; rfl) (pc2 := 15) rfl ?_
  refine e_aload_n dX6_layOut_15 0 rfl rfl (pc2 := 16) rfl ?_
  refine e_iconst (x := 0) dX6_layOut_16 (by decide) (pc2 := 17) rfl ?_
  obtain ⟨s4, es4, hf⟩ := ltb_s hf
  refine e_putI fl_X6_45 dX6_layOut_17 so_73 fn_6_3 (h2 := hp s4) (by rw [es4]; rfl) (pc2 := 20) rfl ?_
  refine e_aload_n dX6_layOut_20 0 rfl rfl (pc2 := 21) rfl ?_
  refine e_iconst (x := (-1)) dX6_layOut_21 (by decide) (pc2 := 22) rfl ?_
  obtain ⟨s5, es5, hf⟩ := ltb_s hf
  refine e_putI fl_X6_48 dX6_layOut_22 so_73 fn_6_4 (h2 := hp s5) (by rw [es5]; rfl) (pc2 := 25) rfl ?_
  refine e_aload_n dX6_layOut_25 0 rfl rfl (pc2 := 26) rfl ?_
  refine e_iconst (x := (-1)) dX6_layOut_26 (by decide) (pc2 := 27) rfl ?_
  obtain ⟨s6, es6, hf⟩ := ltb_s hf
  refine e_putI fl_X6_51 dX6_layOut_27 so_73 fn_6_5 (h2 := hp s6) (by rw [es6]; rfl) (pc2 := 30) rfl ?_
  refine e_aload_n dX6_layOut_30 0 rfl rfl (pc2 := 31) rfl ?_
  refine e_iconst (x := 0) dX6_layOut_31 (by decide) (pc2 := 32) rfl ?_
  obtain ⟨s7, es7, hf⟩ := ltb_s hf
  refine e_putI fl_X6_54 dX6_layOut_32 so_73 fn_6_6 (h2 := hp s7) (by rw [es7]; rfl) (pc2 := 35) rfl ?_
  refine e_aload_n dX6_layOut_35 0 rfl rfl (pc2 := 36) rfl ?_
  refine e_iconst (x := 0) dX6_layOut_36 (by decide) (pc2 := 37) rfl ?_
  obtain ⟨s8, es8, hf⟩ := ltb_s hf
  refine e_putI fl_X6_57 dX6_layOut_37 so_73 fn_6_7 (h2 := hp s8) (by rw [es8]; rfl) (pc2 := 40) rfl ?_
  cases hf
  exact e_vret rfl dX6_layOut_40
abbrev DDX6_makeReady : Nat := 3
def f_X6_makeReady_l12b (v1 : Int32) (k12 : Int32 → HS → Option HS) (k34 : HS → Option HS) (s : HS) : Option HS :=
  (if 2 ≤ v1 then k34 s else gd (inb v1 2) (ltb (sI s 80 (v1.toNatClampNeg) 0) fun s4 => ltb (v1 + 1) fun x6 => k12 x6 s4))
set_option maxRecDepth 20000 in
set_option maxHeartbeats 2000000 in
theorem t_X6_makeReady_l12b (v1 : Int32) (s : HS) {t : HS} (k12 : Int32 → HS → Option HS) (hk12 : ∀ (a1 : Int32) (s : HS), k12 a1 s = some t → Ev DDX6_makeReady miX6_makeReady NF none NF (hp t) 12 NF [(0, .ref 73), (1, .int a1)] [] (hp s)) (k34 : HS → Option HS) (hk34 : ∀ (s : HS), k34 s = some t → Ev DDX6_makeReady miX6_makeReady NF none NF (hp t) 34 NF [(0, .ref 73)] [] (hp s)) (hf : f_X6_makeReady_l12b v1 k12 k34 s = some t) : Ev DDX6_makeReady miX6_makeReady NF none NF (hp t) 12 NF [(0, .ref 73), (1, .int v1)] [] (hp s) := by
  refine e_iload_n dX6_makeReady_12 1 rfl rfl (pc2 := 13) rfl ?_
  refine e_aload_n dX6_makeReady_13 0 rfl rfl (pc2 := 14) rfl ?_
  refine e_getR (r := 80) fl_X6_30 dX6_makeReady_14 so_73 (rs_73_14 s.2.2) (by decide) (pc2 := 17) rfl ?_
  refine e_alen (x := 2) dX6_makeReady_17 sa_80 (by decide) (by decide) (pc2 := 18) rfl ?_
  refine e_icmp_ge (tgt := 34) dX6_makeReady_18 (by decide) (pc2 := 21) rfl (fun c3 => ?_) (fun c3 => ?_)
  · have hf := if_t c3 hf
    refine ev_sub [0] rfl ?_
    exact hk34 s hf
  · have hf := if_f c3 hf
    refine e_aload_n dX6_makeReady_21 0 rfl rfl (pc2 := 22) rfl ?_
    refine e_getR (r := 80) fl_X6_30 dX6_makeReady_22 so_73 (rs_73_14 s.2.2) (by decide) (pc2 := 25) rfl ?_
    refine e_iload_n dX6_makeReady_25 1 rfl rfl (pc2 := 26) rfl ?_
    refine e_iconst (x := 0) dX6_makeReady_26 (by decide) (pc2 := 27) rfl ?_
    obtain ⟨g5, hf⟩ := gd_some hf
    obtain ⟨s4, es4, hf⟩ := ltb_s hf
    refine e_iast dX6_makeReady_27 sa_80 (inb_v g5) (h2 := hp s4) (by rw [es4]; rfl) (pc2 := 28) rfl ?_
    obtain ⟨x6, ex6, hf⟩ := ltb_s hf
    refine e_iinc dX6_makeReady_28 1 rfl (c9 := 1) (by decide) ex6.symm (by decide) (ls' := [(0, .ref 73), (1, .int x6)]) [1, 0] rfl (pc2 := 31) rfl ?_
    refine e_goto (tgt := 12) dX6_makeReady_31 (by decide) ?_
    exact hk12 x6 s4 hf
def f_X6_makeReady_l12 (k34 : HS → Option HS) : Nat → Int32 → HS → Option HS
  | 0, _, _ => none
  | n + 1, v1, s => f_X6_makeReady_l12b v1 (f_X6_makeReady_l12 k34 n) k34 s
set_option maxRecDepth 20000 in
set_option maxHeartbeats 2000000 in
theorem t_X6_makeReady_l12  {t : HS} (k34 : HS → Option HS) (hk34 : ∀ (s : HS), k34 s = some t → Ev DDX6_makeReady miX6_makeReady NF none NF (hp t) 34 NF [(0, .ref 73)] [] (hp s)) : ∀ (n : Nat) (v1 : Int32) (s : HS), f_X6_makeReady_l12 k34 n v1 s = some t → Ev DDX6_makeReady miX6_makeReady NF none NF (hp t) 12 NF [(0, .ref 73), (1, .int v1)] [] (hp s) := by
  intro n
  induction n with
  | zero =>
    intro v1 s hf
    have hf : none = some t := hf
    cases hf
  | succ n ih =>
    intro v1 s hf
    exact t_X6_makeReady_l12b v1  s _ ih _ hk34 hf
def f_X6_makeReady_j89 (v1 : Int32) (v2 : Int32) (w0 : Int32) (w1 : Int32) (k36 : Int32 → HS → Option HS) (s : HS) : Option HS :=
  gd (inb w1 6) (ltb (sI s 74 (w1.toNatClampNeg) w0) fun s16 => gd (okX4 (s16.2.2.2.2.1)) (gd (okX7 (s16.2.2.2.2.2.1)) (gd (inb v1 6) (ltb (sI s16 75 (v1.toNatClampNeg) (f_X4_goesAt (s16.2.2.2.2.1) v2 (s16.1 (s16.2.2.2.2.2.1) 1) s16)) fun s20 => gd (inb v1 6) (ltb (sI s20 76 (v1.toNatClampNeg) (-1)) fun s22 => gd (inb v1 6) (ltb (sI s22 77 (v1.toNatClampNeg) (-1)) fun s24 => gd (inb v1 6) (ltb (sI s24 78 (v1.toNatClampNeg) 0) fun s26 => gd (inb v1 6) (ltb (sI s26 79 (v1.toNatClampNeg) 0) fun s28 => ltb (v1 + 1) fun x30 => k36 x30 s28))))))))
set_option maxRecDepth 20000 in
set_option maxHeartbeats 2000000 in
theorem t_X6_makeReady_j89 (v1 : Int32) (v2 : Int32) (w0 : Int32) (w1 : Int32) (s : HS) {t : HS} (k36 : Int32 → HS → Option HS) (hk36 : ∀ (a1 : Int32) (s : HS), k36 a1 s = some t → Ev DDX6_makeReady miX6_makeReady NF none NF (hp t) 36 NF [(0, .ref 73), (1, .int a1)] [] (hp s)) (hf : f_X6_makeReady_j89 v1 v2 w0 w1 k36 s = some t) : Ev DDX6_makeReady miX6_makeReady NF none NF (hp t) 89 NF [(0, .ref 73), (1, .int v1), (2, .int v2)] [.int w0, .int w1, .ref 74] (hp s) := by
  obtain ⟨g17, hf⟩ := gd_some hf
  obtain ⟨s16, es16, hf⟩ := ltb_s hf
  refine e_iast dX6_makeReady_89 sa_74 (inb_v g17) (h2 := hp s16) (by rw [es16]; rfl) (pc2 := 90) rfl ?_
  refine e_aload_n dX6_makeReady_90 0 rfl rfl (pc2 := 91) rfl ?_
  refine e_getR (r := 75) fl_X6_15 dX6_makeReady_91 so_73 (rs_73_9 s16.2.2) (by decide) (pc2 := 94) rfl ?_
  refine e_iload_n dX6_makeReady_94 1 rfl rfl (pc2 := 95) rfl ?_
  refine e_aload_n dX6_makeReady_95 0 rfl rfl (pc2 := 96) rfl ?_
  obtain ⟨g18, hf⟩ := gd_some hf
  refine e_getR (r := s16.2.2.2.2.1) fl_X6_33 dX6_makeReady_96 so_73 rfl (okX4_ne g18) (pc2 := 99) rfl ?_
  refine e_iload_n dX6_makeReady_99 2 rfl rfl (pc2 := 100) rfl ?_
  refine e_aload_n dX6_makeReady_100 0 rfl rfl (pc2 := 101) rfl ?_
  obtain ⟨g19, hf⟩ := gd_some hf
  refine e_getR (r := s16.2.2.2.2.2.1) fl_X6_37 dX6_makeReady_101 so_73 rfl (okX7_ne g19) (pc2 := 104) rfl ?_
  refine e_getI fl_X6_113 dX6_makeReady_104 (okX7_o g19) (by decide) (pc2 := 107) rfl ?_
  refine e_callVs (t_X4_goesAt (s16.2.2.2.2.1) g18 v2 (s16.1 (s16.2.2.2.2.2.1) 1) s16 rfl) dX6_makeReady_107 cv_X6_116 rfl (okX4_o g18) rc_4 (by decide) (by first | exact Nat.le_of_ble_eq_true rfl | simp [rva_cat, vc_i, vc_r, vc_l, vc_n]) nn0 rfl (pc2 := 110) rfl ?_
  obtain ⟨g21, hf⟩ := gd_some hf
  obtain ⟨s20, es20, hf⟩ := ltb_s hf
  refine e_iast dX6_makeReady_110 sa_75 (inb_v g21) (h2 := hp s20) (by rw [es20]; rfl) (pc2 := 111) rfl ?_
  refine e_aload_n dX6_makeReady_111 0 rfl rfl (pc2 := 112) rfl ?_
  refine e_getR (r := 76) fl_X6_18 dX6_makeReady_112 so_73 (rs_73_10 s20.2.2) (by decide) (pc2 := 115) rfl ?_
  refine e_iload_n dX6_makeReady_115 1 rfl rfl (pc2 := 116) rfl ?_
  refine e_iconst (x := (-1)) dX6_makeReady_116 (by decide) (pc2 := 117) rfl ?_
  obtain ⟨g23, hf⟩ := gd_some hf
  obtain ⟨s22, es22, hf⟩ := ltb_s hf
  refine e_iast dX6_makeReady_117 sa_76 (inb_v g23) (h2 := hp s22) (by rw [es22]; rfl) (pc2 := 118) rfl ?_
  refine e_aload_n dX6_makeReady_118 0 rfl rfl (pc2 := 119) rfl ?_
  refine e_getR (r := 77) fl_X6_21 dX6_makeReady_119 so_73 (rs_73_11 s22.2.2) (by decide) (pc2 := 122) rfl ?_
  refine e_iload_n dX6_makeReady_122 1 rfl rfl (pc2 := 123) rfl ?_
  refine e_iconst (x := (-1)) dX6_makeReady_123 (by decide) (pc2 := 124) rfl ?_
  obtain ⟨g25, hf⟩ := gd_some hf
  obtain ⟨s24, es24, hf⟩ := ltb_s hf
  refine e_iast dX6_makeReady_124 sa_77 (inb_v g25) (h2 := hp s24) (by rw [es24]; rfl) (pc2 := 125) rfl ?_
  refine e_aload_n dX6_makeReady_125 0 rfl rfl (pc2 := 126) rfl ?_
  refine e_getR (r := 78) fl_X6_24 dX6_makeReady_126 so_73 (rs_73_12 s24.2.2) (by decide) (pc2 := 129) rfl ?_
  refine e_iload_n dX6_makeReady_129 1 rfl rfl (pc2 := 130) rfl ?_
  refine e_iconst (x := 0) dX6_makeReady_130 (by decide) (pc2 := 131) rfl ?_
  obtain ⟨g27, hf⟩ := gd_some hf
  obtain ⟨s26, es26, hf⟩ := ltb_s hf
  refine e_iast dX6_makeReady_131 sa_78 (inb_v g27) (h2 := hp s26) (by rw [es26]; rfl) (pc2 := 132) rfl ?_
  refine e_aload_n dX6_makeReady_132 0 rfl rfl (pc2 := 133) rfl ?_
  refine e_getR (r := 79) fl_X6_27 dX6_makeReady_133 so_73 (rs_73_13 s26.2.2) (by decide) (pc2 := 136) rfl ?_
  refine e_iload_n dX6_makeReady_136 1 rfl rfl (pc2 := 137) rfl ?_
  refine e_iconst (x := 0) dX6_makeReady_137 (by decide) (pc2 := 138) rfl ?_
  obtain ⟨g29, hf⟩ := gd_some hf
  obtain ⟨s28, es28, hf⟩ := ltb_s hf
  refine e_iast dX6_makeReady_138 sa_79 (inb_v g29) (h2 := hp s28) (by rw [es28]; rfl) (pc2 := 139) rfl ?_
  obtain ⟨x30, ex30, hf⟩ := ltb_s hf
  refine e_iinc dX6_makeReady_139 1 rfl (c9 := 1) (by decide) ex30.symm (by decide) (ls' := [(0, .ref 73), (1, .int x30)]) [1, 0] rfl (pc2 := 142) rfl ?_
  refine e_goto (tgt := 36) dX6_makeReady_142 (by decide) ?_
  exact hk36 x30 s28 hf
def f_X6_makeReady_l36b (v1 : Int32) (k36 : Int32 → HS → Option HS) (s : HS) : Option HS :=
  gd (okX4 (s.2.2.2.2.1)) ((if (s.1 (s.2.2.2.2.1) 14) ≤ v1 then some s else gd (okX4 (s.2.2.2.2.1)) (gd (okX7 (s.2.2.2.2.2.1)) (bnd (f_X4_wayOf (s.2.2.2.2.1) v1 (s.1 (s.2.2.2.2.2.1) 2) s) fun y12 => gd (okX4 (s.2.2.2.2.1)) (gd (inb v1 6) ((if (s.1 (Rf (Rf (s.2.2.2.2.1) 15) v1.toNatClampNeg) 1) = 2 then f_X6_makeReady_j89 v1 y12 0 v1 k36 s else f_X6_makeReady_j89 v1 y12 y12 v1 k36 s)))))))
set_option maxRecDepth 20000 in
set_option maxHeartbeats 2000000 in
theorem t_X6_makeReady_l36b (v1 : Int32) (s : HS) {t : HS} (k36 : Int32 → HS → Option HS) (hk36 : ∀ (a1 : Int32) (s : HS), k36 a1 s = some t → Ev DDX6_makeReady miX6_makeReady NF none NF (hp t) 36 NF [(0, .ref 73), (1, .int a1)] [] (hp s)) (hf : f_X6_makeReady_l36b v1 k36 s = some t) : Ev DDX6_makeReady miX6_makeReady NF none NF (hp t) 36 NF [(0, .ref 73), (1, .int v1)] [] (hp s) := by
  refine e_iload_n dX6_makeReady_36 1 rfl rfl (pc2 := 37) rfl ?_
  refine e_aload_n dX6_makeReady_37 0 rfl rfl (pc2 := 38) rfl ?_
  obtain ⟨g8, hf⟩ := gd_some hf
  refine e_getR (r := s.2.2.2.2.1) fl_X6_33 dX6_makeReady_38 so_73 rfl (okX4_ne g8) (pc2 := 41) rfl ?_
  refine e_getI fl_X6_76 dX6_makeReady_41 (okX4_o g8) (by decide) (pc2 := 44) rfl ?_
  refine e_icmp_ge (tgt := 145) dX6_makeReady_44 (by decide) (pc2 := 47) rfl (fun c9 => ?_) (fun c9 => ?_)
  · have hf := if_t c9 hf
    cases hf
    exact e_vret rfl dX6_makeReady_145
  · have hf := if_f c9 hf
    refine e_aload_n dX6_makeReady_47 0 rfl rfl (pc2 := 48) rfl ?_
    obtain ⟨g10, hf⟩ := gd_some hf
    refine e_getR (r := s.2.2.2.2.1) fl_X6_33 dX6_makeReady_48 so_73 rfl (okX4_ne g10) (pc2 := 51) rfl ?_
    refine e_iload_n dX6_makeReady_51 1 rfl rfl (pc2 := 52) rfl ?_
    refine e_aload_n dX6_makeReady_52 0 rfl rfl (pc2 := 53) rfl ?_
    obtain ⟨g11, hf⟩ := gd_some hf
    refine e_getR (r := s.2.2.2.2.2.1) fl_X6_37 dX6_makeReady_53 so_73 rfl (okX7_ne g11) (pc2 := 56) rfl ?_
    refine e_getI fl_X6_97 dX6_makeReady_56 (okX7_o g11) (by decide) (pc2 := 59) rfl ?_
    obtain ⟨y12, hy12, hf⟩ := bnd_s hf
    refine e_callVs (t_X4_wayOf (s.2.2.2.2.1) g10 v1 (s.1 (s.2.2.2.2.2.1) 2) s hy12) dX6_makeReady_59 cv_X6_100 rfl (okX4_o g10) rc_4 (by decide) (by first | exact Nat.le_of_ble_eq_true rfl | simp [rva_cat, vc_i, vc_r, vc_l, vc_n]) nn0 rfl (pc2 := 62) rfl ?_
    refine e_istore_n dX6_makeReady_62 rfl (by decide) rfl (ls' := [(0, .ref 73), (1, .int v1), (2, .int y12)]) [1, 2, 0] rfl (pc2 := 63) rfl ?_
    refine e_aload_n dX6_makeReady_63 0 rfl rfl (pc2 := 64) rfl ?_
    refine e_getR (r := 74) fl_X6_9 dX6_makeReady_64 so_73 (rs_73_8 s.2.2) (by decide) (pc2 := 67) rfl ?_
    refine e_iload_n dX6_makeReady_67 1 rfl rfl (pc2 := 68) rfl ?_
    refine e_aload_n dX6_makeReady_68 0 rfl rfl (pc2 := 69) rfl ?_
    obtain ⟨g13, hf⟩ := gd_some hf
    refine e_getR (r := s.2.2.2.2.1) fl_X6_33 dX6_makeReady_69 so_73 rfl (okX4_ne g13) (pc2 := 72) rfl ?_
    refine e_getR (r := Rf (s.2.2.2.2.1) 15) fl_X6_104 dX6_makeReady_72 (okX4_o g13) (okX4_R g13) (isA_ne (okX4_buyer g13)) (pc2 := 75) rfl ?_
    refine e_iload_n dX6_makeReady_75 1 rfl rfl (pc2 := 76) rfl ?_
    obtain ⟨g14, hf⟩ := gd_some hf
    refine e_aald (r := Rf (Rf (s.2.2.2.2.1) 15) v1.toNatClampNeg) dX6_makeReady_76 (okX4_buyer g13) (by decide) (inb_v g14) (Rs_na (q := s.2.2) (okX4_buyer g13) (by decide)) (okX0_ne (okX4_buyer_el g13 (inb_v g14))) (pc2 := 77) rfl ?_
    refine e_getI fl_X6_108 dX6_makeReady_77 (okX0_o (okX4_buyer_el g13 (inb_v g14))) (by decide) (pc2 := 80) rfl ?_
    refine e_iconst (x := 2) dX6_makeReady_80 (by decide) (pc2 := 81) rfl ?_
    refine e_icmp_ne (tgt := 88) dX6_makeReady_81 (by decide) (pc2 := 84) rfl (fun c15 => ?_) (fun c15 => ?_)
    · have hf := if_f c15 hf
      refine e_iload_n dX6_makeReady_88 2 rfl rfl (pc2 := 89) rfl ?_
      exact t_X6_makeReady_j89 v1 y12 y12 v1 s _ hk36 hf
    · have hf := if_t c15 hf
      refine e_iconst (x := 0) dX6_makeReady_84 (by decide) (pc2 := 85) rfl ?_
      refine e_goto (tgt := 89) dX6_makeReady_85 (by decide) ?_
      exact t_X6_makeReady_j89 v1 y12 0 v1 s _ hk36 hf
def f_X6_makeReady_l36  : Nat → Int32 → HS → Option HS
  | 0, _, _ => none
  | n + 1, v1, s => f_X6_makeReady_l36b v1 (f_X6_makeReady_l36  n)  s
set_option maxRecDepth 20000 in
set_option maxHeartbeats 2000000 in
theorem t_X6_makeReady_l36  {t : HS}  : ∀ (n : Nat) (v1 : Int32) (s : HS), f_X6_makeReady_l36  n v1 s = some t → Ev DDX6_makeReady miX6_makeReady NF none NF (hp t) 36 NF [(0, .ref 73), (1, .int v1)] [] (hp s) := by
  intro n
  induction n with
  | zero =>
    intro v1 s hf
    have hf : none = some t := hf
    cases hf
  | succ n ih =>
    intro v1 s hf
    exact t_X6_makeReady_l36b v1  s _ ih  hf
def f_X6_makeReady  (s : HS) : Option HS :=
  ltb (sI s 73 15 0) fun s1 => ltb (sI s1 73 16 0) fun s2 => f_X6_makeReady_l12 (fun s7 => f_X6_makeReady_l36 FU 0 s7) FU 0 s2
set_option maxRecDepth 20000 in
set_option maxHeartbeats 2000000 in
theorem t_X6_makeReady  (s : HS) {t : HS} (hf : f_X6_makeReady  s = some t) : Mt DDX6_makeReady miX6_makeReady [.ref 73] NF (hp s) none NF (hp t) := by
  refine Mt.of (by decide +kernel) (Nat.le_refl _) (Nat.le_of_ble_eq_true rfl) ?_
  show Ev DDX6_makeReady miX6_makeReady NF none NF (hp t) 0 NF [(0, .ref 73)] [] (hp s)
  unfold f_X6_makeReady at hf
  refine e_aload_n dX6_makeReady_0 0 rfl rfl (pc2 := 1) rfl ?_
  refine e_iconst (x := 0) dX6_makeReady_1 (by decide) (pc2 := 2) rfl ?_
  obtain ⟨s1, es1, hf⟩ := ltb_s hf
  refine e_putI fl_X6_91 dX6_makeReady_2 so_73 fn_6_15 (h2 := hp s1) (by rw [es1]; rfl) (pc2 := 5) rfl ?_
  refine e_aload_n dX6_makeReady_5 0 rfl rfl (pc2 := 6) rfl ?_
  refine e_iconst (x := 0) dX6_makeReady_6 (by decide) (pc2 := 7) rfl ?_
  obtain ⟨s2, es2, hf⟩ := ltb_s hf
  refine e_putI fl_X6_94 dX6_makeReady_7 so_73 fn_6_16 (h2 := hp s2) (by rw [es2]; rfl) (pc2 := 10) rfl ?_
  refine e_iconst (x := 0) dX6_makeReady_10 (by decide) (pc2 := 11) rfl ?_
  refine e_istore_n dX6_makeReady_11 rfl (by decide) rfl (ls' := [(0, .ref 73), (1, .int 0)]) [1, 0] rfl (pc2 := 12) rfl ?_
  refine t_X6_makeReady_l12 _ ?_ FU 0 s2 hf
  · intro s7 hf
    refine e_iconst (x := 0) dX6_makeReady_34 (by decide) (pc2 := 35) rfl ?_
    refine e_istore_n dX6_makeReady_35 rfl (by decide) rfl (ls' := [(0, .ref 73), (1, .int 0)]) [1, 0] rfl (pc2 := 36) rfl ?_
    refine t_X6_makeReady_l36 FU 0 s7 hf
abbrev DDX6_isOut : Nat := 1
def f_X6_isOut (v1 : Int32) (s : HS) : Option Int32 :=
  gd (okX7 (s.2.2.2.2.2.1)) ((if (((s.1 (s.2.2.2.2.2.1) 0) >>> (v1 &&& 31)) &&& (1 : Int32)) = 0 then some 0 else some 1))
set_option maxRecDepth 20000 in
set_option maxHeartbeats 2000000 in
theorem t_X6_isOut (v1 : Int32) (s : HS) {x : Int32} (hf : f_X6_isOut  v1 s = some x) : Mt DDX6_isOut miX6_isOut [.ref 73, .int v1] NF (hp s) (some (.int x)) NF (hp s) := by
  refine Mt.of (by decide +kernel) (Nat.le_refl _) (Nat.le_of_ble_eq_true rfl) ?_
  show Ev DDX6_isOut miX6_isOut NF (some (.int x)) NF (hp s) 0 NF [(0, .ref 73), (1, .int v1)] [] (hp s)
  unfold f_X6_isOut at hf
  refine e_aload_n dX6_isOut_0 0 rfl rfl (pc2 := 1) rfl ?_
  obtain ⟨g1, hf⟩ := gd_some hf
  refine e_getR (r := s.2.2.2.2.2.1) fl_X6_37 dX6_isOut_1 so_73 rfl (okX7_ne g1) (pc2 := 4) rfl ?_
  refine e_getI fl_X6_86 dX6_isOut_4 (okX7_o g1) (by decide) (pc2 := 7) rfl ?_
  refine e_iload_n dX6_isOut_7 1 rfl rfl (pc2 := 8) rfl ?_
  refine e_ishr dX6_isOut_8 (pc2 := 9) rfl ?_
  refine e_iconst (x := 1) dX6_isOut_9 (by decide) (pc2 := 10) rfl ?_
  refine e_iand dX6_isOut_10 (pc2 := 11) rfl ?_
  refine e_if_eq (tgt := 18) dX6_isOut_11 (by decide) (pc2 := 14) rfl (fun c2 => ?_) (fun c2 => ?_)
  · have hf := if_t c2 hf
    refine e_iconst (x := 0) dX6_isOut_18 (by decide) (pc2 := 19) rfl ?_
    cases hf
    exact e_zret (by decide) rfl dX6_isOut_19
  · have hf := if_f c2 hf
    refine e_iconst (x := 1) dX6_isOut_14 (by decide) (pc2 := 15) rfl ?_
    refine e_goto (tgt := 19) dX6_isOut_15 (by decide) ?_
    cases hf
    exact e_zret (by decide) rfl dX6_isOut_19
abbrev DDX6_wantsToo : Nat := 1
def f_X6_wantsToo (v1 : Int32) (v2 : Int32) (s : HS) : Int32 :=
  (if v1 = v2 then 1 else (if v1 = (s.1 73 4) then (if (((s.1 73 3) >>> (v2 &&& 31)) &&& (1 : Int32)) = 0 then 0 else 1) else 0))
set_option maxRecDepth 20000 in
set_option maxHeartbeats 2000000 in
theorem t_X6_wantsToo (v1 : Int32) (v2 : Int32) (s : HS) {x : Int32} (hf : f_X6_wantsToo  v1 v2 s = x) : Mt DDX6_wantsToo miX6_wantsToo [.ref 73, .int v1, .int v2] NF (hp s) (some (.int x)) NF (hp s) := by
  refine Mt.of (by decide +kernel) (Nat.le_refl _) (Nat.le_of_ble_eq_true rfl) ?_
  show Ev DDX6_wantsToo miX6_wantsToo NF (some (.int x)) NF (hp s) 0 NF [(0, .ref 73), (1, .int v1), (2, .int v2)] [] (hp s)
  unfold f_X6_wantsToo at hf
  refine e_iload_n dX6_wantsToo_0 1 rfl rfl (pc2 := 1) rfl ?_
  refine e_iload_n dX6_wantsToo_1 2 rfl rfl (pc2 := 2) rfl ?_
  refine e_icmp_eq (tgt := 24) dX6_wantsToo_2 (by decide) (pc2 := 5) rfl (fun c1 => ?_) (fun c1 => ?_)
  · have hf := if_t c1 hf
    refine e_iconst (x := 1) dX6_wantsToo_24 (by decide) (pc2 := 25) rfl ?_
    refine e_goto (tgt := 29) dX6_wantsToo_25 (by decide) ?_
    cases hf
    exact e_zret (by decide) rfl dX6_wantsToo_29
  · have hf := if_f c1 hf
    refine e_iload_n dX6_wantsToo_5 1 rfl rfl (pc2 := 6) rfl ?_
    refine e_aload_n dX6_wantsToo_6 0 rfl rfl (pc2 := 7) rfl ?_
    refine e_getI fl_X6_48 dX6_wantsToo_7 so_73 (by decide) (pc2 := 10) rfl ?_
    refine e_icmp_ne (tgt := 28) dX6_wantsToo_10 (by decide) (pc2 := 13) rfl (fun c2 => ?_) (fun c2 => ?_)
    · have hf := if_f c2 hf
      refine e_iconst (x := 0) dX6_wantsToo_28 (by decide) (pc2 := 29) rfl ?_
      cases hf
      exact e_zret (by decide) rfl dX6_wantsToo_29
    · have hf := if_t c2 hf
      refine e_aload_n dX6_wantsToo_13 0 rfl rfl (pc2 := 14) rfl ?_
      refine e_getI fl_X6_45 dX6_wantsToo_14 so_73 (by decide) (pc2 := 17) rfl ?_
      refine e_iload_n dX6_wantsToo_17 2 rfl rfl (pc2 := 18) rfl ?_
      refine e_ishr dX6_wantsToo_18 (pc2 := 19) rfl ?_
      refine e_iconst (x := 1) dX6_wantsToo_19 (by decide) (pc2 := 20) rfl ?_
      refine e_iand dX6_wantsToo_20 (pc2 := 21) rfl ?_
      refine e_if_eq (tgt := 28) dX6_wantsToo_21 (by decide) (pc2 := 24) rfl (fun c3 => ?_) (fun c3 => ?_)
      · have hf := if_t c3 hf
        refine e_iconst (x := 0) dX6_wantsToo_28 (by decide) (pc2 := 29) rfl ?_
        cases hf
        exact e_zret (by decide) rfl dX6_wantsToo_29
      · have hf := if_f c3 hf
        refine e_iconst (x := 1) dX6_wantsToo_24 (by decide) (pc2 := 25) rfl ?_
        refine e_goto (tgt := 29) dX6_wantsToo_25 (by decide) ?_
        cases hf
        exact e_zret (by decide) rfl dX6_wantsToo_29
