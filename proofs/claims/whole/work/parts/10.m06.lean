abbrev DDX11_changeByHand : Nat := 3
def f_X11_changeByHand_j69 (v1 : Int32) (v2 : Int32) (v4 : Int32) (s : HS) : Option (Int32 × HS) :=
  ltb ((s.1 1 10) * 3) fun x8 => gd (inb x8 48) (ltb (sI s 34 (x8.toNatClampNeg) v1) fun s9 => gd (inb (x8 + 1) 48) (ltb (sI s9 34 ((x8 + 1).toNatClampNeg) v2) fun s11 => gd (inb (x8 + 2) 48) (ltb (sI s11 34 ((x8 + 2).toNatClampNeg) v4) fun s13 => ltb (sI s13 1 10 ((s13.1 1 10) + 1)) fun s15 => some (1, s15))))
set_option maxRecDepth 20000 in
set_option maxHeartbeats 2000000 in
theorem t_X11_changeByHand_j69 (v1 : Int32) (v2 : Int32) (v4 : Int32) (s : HS) {x : Int32} {t : HS}  (hf : f_X11_changeByHand_j69 v1 v2 v4 s = some (x, t)) : Ev DDX11_changeByHand miX11_changeByHand NF (some (.int x)) NF (hp t) 69 NF [(0, .ref 1), (1, .int v1), (2, .int v2), (4, .int v4)] [] (hp s) := by
  refine e_aload_n dX11_changeByHand_69 0 rfl rfl (pc2 := 70) rfl ?_
  refine e_getI fl_X11_91 dX11_changeByHand_70 so_1 (by decide) (pc2 := 73) rfl ?_
  refine e_iconst (x := 3) dX11_changeByHand_73 (by decide) (pc2 := 74) rfl ?_
  refine e_imul dX11_changeByHand_74 (pc2 := 75) rfl ?_
  obtain ⟨x8, ex8, hf⟩ := ltb_s hf
  refine e_istore dX11_changeByHand_75 (by decide) ex8.symm (ls' := [(0, .ref 1), (1, .int v1), (2, .int v2), (4, .int v4), (5, .int x8)]) [1, 2, 3, 4, 0] rfl (pc2 := 77) rfl ?_
  refine e_aload_n dX11_changeByHand_77 0 rfl rfl (pc2 := 78) rfl ?_
  refine e_getR (r := 34) fl_X11_27 dX11_changeByHand_78 so_1 (rs_1_9 s.2.2) (by decide) (pc2 := 81) rfl ?_
  refine e_iload dX11_changeByHand_81 4 rfl (pc2 := 83) rfl ?_
  refine e_iload_n dX11_changeByHand_83 1 rfl rfl (pc2 := 84) rfl ?_
  obtain ⟨g10, hf⟩ := gd_some hf
  obtain ⟨s9, es9, hf⟩ := ltb_s hf
  refine e_iast dX11_changeByHand_84 sa_34 (inb_v g10) (h2 := hp s9) (by rw [es9]; rfl) (pc2 := 85) rfl ?_
  refine e_aload_n dX11_changeByHand_85 0 rfl rfl (pc2 := 86) rfl ?_
  refine e_getR (r := 34) fl_X11_27 dX11_changeByHand_86 so_1 (rs_1_9 s9.2.2) (by decide) (pc2 := 89) rfl ?_
  refine e_iload dX11_changeByHand_89 4 rfl (pc2 := 91) rfl ?_
  refine e_iconst (x := 1) dX11_changeByHand_91 (by decide) (pc2 := 92) rfl ?_
  refine e_iadd dX11_changeByHand_92 (pc2 := 93) rfl ?_
  refine e_iload_n dX11_changeByHand_93 2 rfl rfl (pc2 := 94) rfl ?_
  obtain ⟨g12, hf⟩ := gd_some hf
  obtain ⟨s11, es11, hf⟩ := ltb_s hf
  refine e_iast dX11_changeByHand_94 sa_34 (inb_v g12) (h2 := hp s11) (by rw [es11]; rfl) (pc2 := 95) rfl ?_
  refine e_aload_n dX11_changeByHand_95 0 rfl rfl (pc2 := 96) rfl ?_
  refine e_getR (r := 34) fl_X11_27 dX11_changeByHand_96 so_1 (rs_1_9 s11.2.2) (by decide) (pc2 := 99) rfl ?_
  refine e_iload dX11_changeByHand_99 4 rfl (pc2 := 101) rfl ?_
  refine e_iconst (x := 2) dX11_changeByHand_101 (by decide) (pc2 := 102) rfl ?_
  refine e_iadd dX11_changeByHand_102 (pc2 := 103) rfl ?_
  refine e_iload dX11_changeByHand_103 3 rfl (pc2 := 105) rfl ?_
  obtain ⟨g14, hf⟩ := gd_some hf
  obtain ⟨s13, es13, hf⟩ := ltb_s hf
  refine e_iast dX11_changeByHand_105 sa_34 (inb_v g14) (h2 := hp s13) (by rw [es13]; rfl) (pc2 := 106) rfl ?_
  refine e_aload_n dX11_changeByHand_106 0 rfl rfl (pc2 := 107) rfl ?_
  refine e_dup dX11_changeByHand_107 rfl (pc2 := 108) rfl ?_
  refine e_getI fl_X11_91 dX11_changeByHand_108 so_1 (by decide) (pc2 := 111) rfl ?_
  refine e_iconst (x := 1) dX11_changeByHand_111 (by decide) (pc2 := 112) rfl ?_
  refine e_iadd dX11_changeByHand_112 (pc2 := 113) rfl ?_
  obtain ⟨s15, es15, hf⟩ := ltb_s hf
  refine e_putI fl_X11_91 dX11_changeByHand_113 so_1 fn_10_10 (h2 := hp s15) (by rw [es15]; rfl) (pc2 := 116) rfl ?_
  refine e_iconst (x := 1) dX11_changeByHand_116 (by decide) (pc2 := 117) rfl ?_
  cases hf
  exact e_zret (by decide) rfl dX11_changeByHand_117
def f_X11_changeByHand (v1 : Int32) (v2 : Int32) (v3 : Int32) (s : HS) : Option (Int32 × HS) :=
  gd (okX4 (s.2.2.1)) (bnd (f_X7_valueOf 64 (s.2.2.1) v1 v2 s) fun y2 => gd (okX4 (s.2.2.1)) (bnd2 (f_X7_change 64 (s.2.2.1) v1 v2 v3 s) fun y4 s5 => (if y4 = 0 then some (0, s5) else (if (s5.1 1 10) < 16 then f_X11_changeByHand_j69 v1 v2 y2 s5 else gd (cpok 3 0 (48 - 3) 48 48) (ltb (sA s5 34 (va_cpy (s5.1 34) (s5.1 34) (3 : Int32).toNatClampNeg (0 : Int32).toNatClampNeg (48 - 3 : Int32).toNatClampNeg)) fun s16 => ltb (sI s16 1 10 15) fun s18 => f_X11_changeByHand_j69 v1 v2 y2 s18)))))
set_option maxRecDepth 20000 in
set_option maxHeartbeats 2000000 in
theorem t_X11_changeByHand (v1 : Int32) (v2 : Int32) (v3 : Int32) (s : HS) {x : Int32} {t : HS} (hf : f_X11_changeByHand  v1 v2 v3 s = some (x, t)) : Mt DDX11_changeByHand miX11_changeByHand [.ref 1, .int v1, .int v2, .int v3] NF (hp s) (some (.int x)) NF (hp t) := by
  refine Mt.of (by decide +kernel) (Nat.le_refl _) (Nat.le_of_ble_eq_true rfl) ?_
  show Ev DDX11_changeByHand miX11_changeByHand NF (some (.int x)) NF (hp t) 0 NF [(0, .ref 1), (1, .int v1), (2, .int v2), (3, .int v3)] [] (hp s)
  unfold f_X11_changeByHand at hf
  refine e_aload_n dX11_changeByHand_0 0 rfl rfl (pc2 := 1) rfl ?_
  refine e_getR (r := 64) fl_X11_64 dX11_changeByHand_1 so_1 (rs_1_5 s.2.2) (by decide) (pc2 := 4) rfl ?_
  refine e_aload_n dX11_changeByHand_4 0 rfl rfl (pc2 := 5) rfl ?_
  obtain ⟨g1, hf⟩ := gd_some hf
  refine e_getR (r := s.2.2.1) fl_X11_61 dX11_changeByHand_5 so_1 rfl (okX4_ne g1) (pc2 := 8) rfl ?_
  refine e_iload_n dX11_changeByHand_8 1 rfl rfl (pc2 := 9) rfl ?_
  refine e_iload_n dX11_changeByHand_9 2 rfl rfl (pc2 := 10) rfl ?_
  obtain ⟨y2, hy2, hf⟩ := bnd_s hf
  refine e_callVs (t_X7_valueOf 64 (show okX7 64 = true from rfl) (s.2.2.1) g1 v1 v2 s hy2) dX11_changeByHand_10 cv_X11_316 rfl (okX7_o (show okX7 64 = true from rfl)) rc_7 (by decide) (by first | exact Nat.le_of_ble_eq_true rfl | simp [rva_cat, vc_i, vc_r, vc_l, vc_n]) nn0 rfl (pc2 := 13) rfl ?_
  refine e_istore dX11_changeByHand_13 (by decide) rfl (ls' := [(0, .ref 1), (1, .int v1), (2, .int v2), (3, .int v3), (4, .int y2)]) [1, 2, 3, 4, 0] rfl (pc2 := 15) rfl ?_
  refine e_aload_n dX11_changeByHand_15 0 rfl rfl (pc2 := 16) rfl ?_
  refine e_getR (r := 64) fl_X11_64 dX11_changeByHand_16 so_1 (rs_1_5 s.2.2) (by decide) (pc2 := 19) rfl ?_
  refine e_aload_n dX11_changeByHand_19 0 rfl rfl (pc2 := 20) rfl ?_
  obtain ⟨g3, hf⟩ := gd_some hf
  refine e_getR (r := s.2.2.1) fl_X11_61 dX11_changeByHand_20 so_1 rfl (okX4_ne g3) (pc2 := 23) rfl ?_
  refine e_iload_n dX11_changeByHand_23 1 rfl rfl (pc2 := 24) rfl ?_
  refine e_iload_n dX11_changeByHand_24 2 rfl rfl (pc2 := 25) rfl ?_
  refine e_iload_n dX11_changeByHand_25 3 rfl rfl (pc2 := 26) rfl ?_
  obtain ⟨y4, s5, hy4, hf⟩ := bnd2_s hf
  refine e_callVs (t_X7_change 64 (show okX7 64 = true from rfl) (s.2.2.1) g3 v1 v2 v3 s hy4) dX11_changeByHand_26 cv_X11_178 rfl (okX7_o (show okX7 64 = true from rfl)) rc_7 (by decide) (by first | exact Nat.le_of_ble_eq_true rfl | simp [rva_cat, vc_i, vc_r, vc_l, vc_n]) nn0 rfl (pc2 := 29) rfl ?_
  refine e_if_ne (tgt := 34) dX11_changeByHand_29 (by decide) (pc2 := 32) rfl (fun c6 => ?_) (fun c6 => ?_)
  · have hf := if_f c6 hf
    refine e_aload_n dX11_changeByHand_34 0 rfl rfl (pc2 := 35) rfl ?_
    refine e_getI fl_X11_91 dX11_changeByHand_35 so_1 (by decide) (pc2 := 38) rfl ?_
    refine e_bipush (x := 16) dX11_changeByHand_38 (by decide) (pc2 := 40) rfl ?_
    refine e_icmp_lt (tgt := 69) dX11_changeByHand_40 (by decide) (pc2 := 43) rfl (fun c7 => ?_) (fun c7 => ?_)
    · have hf := if_t c7 hf
      refine ev_sub [0, 1, 2, 4] rfl ?_
      exact t_X11_changeByHand_j69 v1 v2 y2 s5 hf
    · have hf := if_f c7 hf
      refine e_aload_n dX11_changeByHand_43 0 rfl rfl (pc2 := 44) rfl ?_
      refine e_getR (r := 34) fl_X11_27 dX11_changeByHand_44 so_1 (rs_1_9 s5.2.2) (by decide) (pc2 := 47) rfl ?_
      refine e_iconst (x := 3) dX11_changeByHand_47 (by decide) (pc2 := 48) rfl ?_
      refine e_aload_n dX11_changeByHand_48 0 rfl rfl (pc2 := 49) rfl ?_
      refine e_getR (r := 34) fl_X11_27 dX11_changeByHand_49 so_1 (rs_1_9 s5.2.2) (by decide) (pc2 := 52) rfl ?_
      refine e_iconst (x := 0) dX11_changeByHand_52 (by decide) (pc2 := 53) rfl ?_
      refine e_aload_n dX11_changeByHand_53 0 rfl rfl (pc2 := 54) rfl ?_
      refine e_getR (r := 34) fl_X11_27 dX11_changeByHand_54 so_1 (rs_1_9 s5.2.2) (by decide) (pc2 := 57) rfl ?_
      refine e_alen (x := 48) dX11_changeByHand_57 sa_34 (by decide) (by decide) (pc2 := 58) rfl ?_
      refine e_iconst (x := 3) dX11_changeByHand_58 (by decide) (pc2 := 59) rfl ?_
      refine e_isub dX11_changeByHand_59 (pc2 := 60) rfl ?_
      obtain ⟨g17, hf⟩ := gd_some hf
      obtain ⟨s16, es16, hf⟩ := ltb_s hf
      refine e_acopy dX11_changeByHand_60 mm_X11_320 sa_34 sa_34 (cp1 g17) (cp2 g17) (cp3 g17) (cp4 g17) (cp5 g17) (by decide) nn0 (by first | exact Nat.le_of_ble_eq_true rfl | simp [rva_cat, vc_i, vc_r, vc_l, vc_n]) (h2 := hp s16) (by rw [es16]; rfl) (pc2 := 63) rfl ?_
      refine e_aload_n dX11_changeByHand_63 0 rfl rfl (pc2 := 64) rfl ?_
      refine e_bipush (x := 15) dX11_changeByHand_64 (by decide) (pc2 := 66) rfl ?_
      obtain ⟨s18, es18, hf⟩ := ltb_s hf
      refine e_putI fl_X11_91 dX11_changeByHand_66 so_1 fn_10_10 (h2 := hp s18) (by rw [es18]; rfl) (pc2 := 69) rfl ?_
      refine ev_sub [0, 1, 2, 4] rfl ?_
      exact t_X11_changeByHand_j69 v1 v2 y2 s18 hf
  · have hf := if_t c6 hf
    refine e_iconst (x := 0) dX11_changeByHand_32 (by decide) (pc2 := 33) rfl ?_
    cases hf
    exact e_zret (by decide) rfl dX11_changeByHand_33
abbrev DDX11_out : Nat := 4
def f_X11_out (v1 : Int32) (v2 : Int32) (s : HS) : Option (Int32 × HS) :=
  (if v2 = 0 then bnd2 (f_X11_changeByHand 3 v1 0 s) fun y2 s3 => gd (isb y2) (some (y2, s3)) else bnd2 (f_X11_changeByHand 3 v1 1 s) fun y5 s6 => gd (isb y5) (some (y5, s6)))
set_option maxRecDepth 20000 in
set_option maxHeartbeats 2000000 in
theorem t_X11_out (v1 : Int32) (v2 : Int32) (s : HS) {x : Int32} {t : HS} (hf : f_X11_out  v1 v2 s = some (x, t)) : Mt DDX11_out miX11_out [.ref 1, .int v1, .int v2] NF (hp s) (some (.int x)) NF (hp t) := by
  refine Mt.of (by decide +kernel) (Nat.le_refl _) (Nat.le_of_ble_eq_true rfl) ?_
  show Ev DDX11_out miX11_out NF (some (.int x)) NF (hp t) 0 NF [(0, .ref 1), (1, .int v1), (2, .int v2)] [] (hp s)
  unfold f_X11_out at hf
  refine e_aload_n dX11_out_0 0 rfl rfl (pc2 := 1) rfl ?_
  refine e_iconst (x := 3) dX11_out_1 (by decide) (pc2 := 2) rfl ?_
  refine e_iload_n dX11_out_2 1 rfl rfl (pc2 := 3) rfl ?_
  refine e_iload_n dX11_out_3 2 rfl rfl (pc2 := 4) rfl ?_
  refine e_if_eq (tgt := 11) dX11_out_4 (by decide) (pc2 := 7) rfl (fun c1 => ?_) (fun c1 => ?_)
  · have hf := if_t c1 hf
    refine e_iconst (x := 0) dX11_out_11 (by decide) (pc2 := 12) rfl ?_
    obtain ⟨y2, s3, hy2, hf⟩ := bnd2_s hf
    refine e_callVs (t_X11_changeByHand 3 v1 0 s hy2) dX11_out_12 cv_X11_174 rfl so_1 rc_10 (by decide) (by first | exact Nat.le_of_ble_eq_true rfl | simp [rva_cat, vc_i, vc_r, vc_l, vc_n]) nn0 rfl (pc2 := 15) rfl ?_
    obtain ⟨g4, hf⟩ := gd_some hf
    cases hf
    exact e_zret (isb_n g4) rfl dX11_out_15
  · have hf := if_f c1 hf
    refine e_iconst (x := 1) dX11_out_7 (by decide) (pc2 := 8) rfl ?_
    refine e_goto (tgt := 12) dX11_out_8 (by decide) ?_
    obtain ⟨y5, s6, hy5, hf⟩ := bnd2_s hf
    refine e_callVs (t_X11_changeByHand 3 v1 1 s hy5) dX11_out_12 cv_X11_174 rfl so_1 rc_10 (by decide) (by first | exact Nat.le_of_ble_eq_true rfl | simp [rva_cat, vc_i, vc_r, vc_l, vc_n]) nn0 rfl (pc2 := 15) rfl ?_
    obtain ⟨g7, hf⟩ := gd_some hf
    cases hf
    exact e_zret (isb_n g7) rfl dX11_out_15
abbrev DDX11_set : Nat := 4
def f_X11_set (v1 : Int32) (v2 : Int32) (s : HS) : Option (Int32 × HS) :=
  (if v1 < 0 then some (0, s) else (if 2 < v1 then some (0, s) else bnd2 (f_X11_changeByHand v1 0 v2 s) fun y3 s4 => (if y3 = 0 then some (0, s4) else some (1, s4))))
set_option maxRecDepth 20000 in
set_option maxHeartbeats 2000000 in
theorem t_X11_set (v1 : Int32) (v2 : Int32) (s : HS) {x : Int32} {t : HS} (hf : f_X11_set  v1 v2 s = some (x, t)) : Mt DDX11_set miX11_set [.ref 1, .int v1, .int v2] NF (hp s) (some (.int x)) NF (hp t) := by
  refine Mt.of (by decide +kernel) (Nat.le_refl _) (Nat.le_of_ble_eq_true rfl) ?_
  show Ev DDX11_set miX11_set NF (some (.int x)) NF (hp t) 0 NF [(0, .ref 1), (1, .int v1), (2, .int v2)] [] (hp s)
  unfold f_X11_set at hf
  refine e_iload_n dX11_set_0 1 rfl rfl (pc2 := 1) rfl ?_
  refine e_if_lt (tgt := 23) dX11_set_1 (by decide) (pc2 := 4) rfl (fun c1 => ?_) (fun c1 => ?_)
  · have hf := if_t c1 hf
    refine e_iconst (x := 0) dX11_set_23 (by decide) (pc2 := 24) rfl ?_
    cases hf
    exact e_zret (by decide) rfl dX11_set_24
  · have hf := if_f c1 hf
    refine e_iload_n dX11_set_4 1 rfl rfl (pc2 := 5) rfl ?_
    refine e_iconst (x := 2) dX11_set_5 (by decide) (pc2 := 6) rfl ?_
    refine e_icmp_gt (tgt := 23) dX11_set_6 (by decide) (pc2 := 9) rfl (fun c2 => ?_) (fun c2 => ?_)
    · have hf := if_t c2 hf
      refine e_iconst (x := 0) dX11_set_23 (by decide) (pc2 := 24) rfl ?_
      cases hf
      exact e_zret (by decide) rfl dX11_set_24
    · have hf := if_f c2 hf
      refine e_aload_n dX11_set_9 0 rfl rfl (pc2 := 10) rfl ?_
      refine e_iload_n dX11_set_10 1 rfl rfl (pc2 := 11) rfl ?_
      refine e_iconst (x := 0) dX11_set_11 (by decide) (pc2 := 12) rfl ?_
      refine e_iload_n dX11_set_12 2 rfl rfl (pc2 := 13) rfl ?_
      obtain ⟨y3, s4, hy3, hf⟩ := bnd2_s hf
      refine e_callVs (t_X11_changeByHand v1 0 v2 s hy3) dX11_set_13 cv_X11_174 rfl so_1 rc_10 (by decide) (by first | exact Nat.le_of_ble_eq_true rfl | simp [rva_cat, vc_i, vc_r, vc_l, vc_n]) nn0 rfl (pc2 := 16) rfl ?_
      refine e_if_eq (tgt := 23) dX11_set_16 (by decide) (pc2 := 19) rfl (fun c5 => ?_) (fun c5 => ?_)
      · have hf := if_t c5 hf
        refine e_iconst (x := 0) dX11_set_23 (by decide) (pc2 := 24) rfl ?_
        cases hf
        exact e_zret (by decide) rfl dX11_set_24
      · have hf := if_f c5 hf
        refine e_iconst (x := 1) dX11_set_19 (by decide) (pc2 := 20) rfl ?_
        refine e_goto (tgt := 24) dX11_set_20 (by decide) ?_
        cases hf
        exact e_zret (by decide) rfl dX11_set_24
abbrev DDX11_heats : Nat := 4
def f_X11_heats (v1 : Int32) (v2 : Int32) (s : HS) : Option (Int32 × HS) :=
  bnd2 (f_X11_changeByHand 4 v1 v2 s) fun y1 s2 => gd (isb y1) (some (y1, s2))
set_option maxRecDepth 20000 in
set_option maxHeartbeats 2000000 in
theorem t_X11_heats (v1 : Int32) (v2 : Int32) (s : HS) {x : Int32} {t : HS} (hf : f_X11_heats  v1 v2 s = some (x, t)) : Mt DDX11_heats miX11_heats [.ref 1, .int v1, .int v2] NF (hp s) (some (.int x)) NF (hp t) := by
  refine Mt.of (by decide +kernel) (Nat.le_refl _) (Nat.le_of_ble_eq_true rfl) ?_
  show Ev DDX11_heats miX11_heats NF (some (.int x)) NF (hp t) 0 NF [(0, .ref 1), (1, .int v1), (2, .int v2)] [] (hp s)
  unfold f_X11_heats at hf
  refine e_aload_n dX11_heats_0 0 rfl rfl (pc2 := 1) rfl ?_
  refine e_iconst (x := 4) dX11_heats_1 (by decide) (pc2 := 2) rfl ?_
  refine e_iload_n dX11_heats_2 1 rfl rfl (pc2 := 3) rfl ?_
  refine e_iload_n dX11_heats_3 2 rfl rfl (pc2 := 4) rfl ?_
  obtain ⟨y1, s2, hy1, hf⟩ := bnd2_s hf
  refine e_callVs (t_X11_changeByHand 4 v1 v2 s hy1) dX11_heats_4 cv_X11_174 rfl so_1 rc_10 (by decide) (by first | exact Nat.le_of_ble_eq_true rfl | simp [rva_cat, vc_i, vc_r, vc_l, vc_n]) nn0 rfl (pc2 := 7) rfl ?_
  obtain ⟨g3, hf⟩ := gd_some hf
  cases hf
  exact e_zret (isb_n g3) rfl dX11_heats_7
abbrev DDX11_undo : Nat := 3
def f_X11_undo  (s : HS) : Option (Int32 × HS) :=
  (if 0 < (s.1 1 10) then ltb (sI s 1 10 ((s.1 1 10) - 1)) fun s2 => ltb ((s2.1 1 10) * 3) fun x3 => gd (okX4 (s2.2.2.1)) (gd (inb x3 48) (gd (inb (x3 + 1) 48) (gd (inb (x3 + 2) 48) (bnd2 (f_X7_change 64 (s2.2.2.1) (s2.1 34 x3.toNatClampNeg) (s2.1 34 (x3 + 1).toNatClampNeg) (s2.1 34 (x3 + 2).toNatClampNeg) s2) fun y8 s9 => some (1, s9))))) else some (0, s))
set_option maxRecDepth 20000 in
set_option maxHeartbeats 2000000 in
theorem t_X11_undo  (s : HS) {x : Int32} {t : HS} (hf : f_X11_undo  s = some (x, t)) : Mt DDX11_undo miX11_undo [.ref 1] NF (hp s) (some (.int x)) NF (hp t) := by
  refine Mt.of (by decide +kernel) (Nat.le_refl _) (Nat.le_of_ble_eq_true rfl) ?_
  show Ev DDX11_undo miX11_undo NF (some (.int x)) NF (hp t) 0 NF [(0, .ref 1)] [] (hp s)
  unfold f_X11_undo at hf
  refine e_aload_n dX11_undo_0 0 rfl rfl (pc2 := 1) rfl ?_
  refine e_getI fl_X11_91 dX11_undo_1 so_1 (by decide) (pc2 := 4) rfl ?_
  refine e_if_gt (tgt := 9) dX11_undo_4 (by decide) (pc2 := 7) rfl (fun c1 => ?_) (fun c1 => ?_)
  · have hf := if_t c1 hf
    refine e_aload_n dX11_undo_9 0 rfl rfl (pc2 := 10) rfl ?_
    refine e_dup dX11_undo_10 rfl (pc2 := 11) rfl ?_
    refine e_getI fl_X11_91 dX11_undo_11 so_1 (by decide) (pc2 := 14) rfl ?_
    refine e_iconst (x := 1) dX11_undo_14 (by decide) (pc2 := 15) rfl ?_
    refine e_isub dX11_undo_15 (pc2 := 16) rfl ?_
    obtain ⟨s2, es2, hf⟩ := ltb_s hf
    refine e_putI fl_X11_91 dX11_undo_16 so_1 fn_10_10 (h2 := hp s2) (by rw [es2]; rfl) (pc2 := 19) rfl ?_
    refine e_aload_n dX11_undo_19 0 rfl rfl (pc2 := 20) rfl ?_
    refine e_getI fl_X11_91 dX11_undo_20 so_1 (by decide) (pc2 := 23) rfl ?_
    refine e_iconst (x := 3) dX11_undo_23 (by decide) (pc2 := 24) rfl ?_
    refine e_imul dX11_undo_24 (pc2 := 25) rfl ?_
    obtain ⟨x3, ex3, hf⟩ := ltb_s hf
    refine e_istore_n dX11_undo_25 rfl (by decide) ex3.symm (ls' := [(0, .ref 1), (1, .int x3)]) [1, 0] rfl (pc2 := 26) rfl ?_
    refine e_aload_n dX11_undo_26 0 rfl rfl (pc2 := 27) rfl ?_
    refine e_getR (r := 64) fl_X11_64 dX11_undo_27 so_1 (rs_1_5 s2.2.2) (by decide) (pc2 := 30) rfl ?_
    refine e_aload_n dX11_undo_30 0 rfl rfl (pc2 := 31) rfl ?_
    obtain ⟨g4, hf⟩ := gd_some hf
    refine e_getR (r := s2.2.2.1) fl_X11_61 dX11_undo_31 so_1 rfl (okX4_ne g4) (pc2 := 34) rfl ?_
    refine e_aload_n dX11_undo_34 0 rfl rfl (pc2 := 35) rfl ?_
    refine e_getR (r := 34) fl_X11_27 dX11_undo_35 so_1 (rs_1_9 s2.2.2) (by decide) (pc2 := 38) rfl ?_
    refine e_iload_n dX11_undo_38 1 rfl rfl (pc2 := 39) rfl ?_
    obtain ⟨g5, hf⟩ := gd_some hf
    refine e_iald dX11_undo_39 sa_34 (inb_v g5) (pc2 := 40) rfl ?_
    refine e_aload_n dX11_undo_40 0 rfl rfl (pc2 := 41) rfl ?_
    refine e_getR (r := 34) fl_X11_27 dX11_undo_41 so_1 (rs_1_9 s2.2.2) (by decide) (pc2 := 44) rfl ?_
    refine e_iload_n dX11_undo_44 1 rfl rfl (pc2 := 45) rfl ?_
    refine e_iconst (x := 1) dX11_undo_45 (by decide) (pc2 := 46) rfl ?_
    refine e_iadd dX11_undo_46 (pc2 := 47) rfl ?_
    obtain ⟨g6, hf⟩ := gd_some hf
    refine e_iald dX11_undo_47 sa_34 (inb_v g6) (pc2 := 48) rfl ?_
    refine e_aload_n dX11_undo_48 0 rfl rfl (pc2 := 49) rfl ?_
    refine e_getR (r := 34) fl_X11_27 dX11_undo_49 so_1 (rs_1_9 s2.2.2) (by decide) (pc2 := 52) rfl ?_
    refine e_iload_n dX11_undo_52 1 rfl rfl (pc2 := 53) rfl ?_
    refine e_iconst (x := 2) dX11_undo_53 (by decide) (pc2 := 54) rfl ?_
    refine e_iadd dX11_undo_54 (pc2 := 55) rfl ?_
    obtain ⟨g7, hf⟩ := gd_some hf
    refine e_iald dX11_undo_55 sa_34 (inb_v g7) (pc2 := 56) rfl ?_
    obtain ⟨y8, s9, hy8, hf⟩ := bnd2_s hf
    refine e_callVs (t_X7_change 64 (show okX7 64 = true from rfl) (s2.2.2.1) g4 (s2.1 34 x3.toNatClampNeg) (s2.1 34 (x3 + 1).toNatClampNeg) (s2.1 34 (x3 + 2).toNatClampNeg) s2 hy8) dX11_undo_56 cv_X11_178 rfl (okX7_o (show okX7 64 = true from rfl)) rc_7 (by decide) (by first | exact Nat.le_of_ble_eq_true rfl | simp [rva_cat, vc_i, vc_r, vc_l, vc_n]) nn0 rfl (pc2 := 59) rfl ?_
    refine e_pop dX11_undo_59 rfl (pc2 := 60) rfl ?_
    refine e_iconst (x := 1) dX11_undo_60 (by decide) (pc2 := 61) rfl ?_
    cases hf
    exact e_zret (by decide) rfl dX11_undo_61
  · have hf := if_f c1 hf
    refine e_iconst (x := 0) dX11_undo_7 (by decide) (pc2 := 8) rfl ?_
    cases hf
    exact e_zret (by decide) rfl dX11_undo_8
abbrev DDX11_playTrial : Nat := 6
def f_X11_playTrial  (s : HS) : Option HS :=
  gd (okX4 (s.2.2.1)) (bnd (f_X6_layOut (s.2.2.1) 28 s) fun s3 => bnd (f_X6_play s3) fun s5 => some s5)
set_option maxRecDepth 20000 in
set_option maxHeartbeats 2000000 in
theorem t_X11_playTrial  (s : HS) {t : HS} (hf : f_X11_playTrial  s = some t) : Mt DDX11_playTrial miX11_playTrial [.ref 1] NF (hp s) none NF (hp t) := by
  refine Mt.of (by decide +kernel) (Nat.le_refl _) (Nat.le_of_ble_eq_true rfl) ?_
  show Ev DDX11_playTrial miX11_playTrial NF none NF (hp t) 0 NF [(0, .ref 1)] [] (hp s)
  unfold f_X11_playTrial at hf
  refine e_aload_n dX11_playTrial_0 0 rfl rfl (pc2 := 1) rfl ?_
  refine e_getR (r := 73) fl_X11_72 dX11_playTrial_1 so_1 (rs_1_8 s.2.2) (by decide) (pc2 := 4) rfl ?_
  refine e_aload_n dX11_playTrial_4 0 rfl rfl (pc2 := 5) rfl ?_
  obtain ⟨g1, hf⟩ := gd_some hf
  refine e_getR (r := s.2.2.1) fl_X11_61 dX11_playTrial_5 so_1 rfl (okX4_ne g1) (pc2 := 8) rfl ?_
  refine e_aload_n dX11_playTrial_8 0 rfl rfl (pc2 := 9) rfl ?_
  refine e_getR (r := 28) fl_X11_19 dX11_playTrial_9 so_1 (rs_1_6 s.2.2) (by decide) (pc2 := 12) rfl ?_
  obtain ⟨s3, hy2, hf⟩ := bnd_s hf
  refine e_callVn (t_X6_layOut (s.2.2.1) g1 28 (show okX7 28 = true from rfl) s hy2) dX11_playTrial_12 cv_X11_258 rfl so_73 rc_6 (by decide) (by first | exact Nat.le_of_ble_eq_true rfl | simp [rva_cat, vc_i, vc_r, vc_l, vc_n]) nn0 rfl (pc2 := 15) rfl ?_
  refine e_aload_n dX11_playTrial_15 0 rfl rfl (pc2 := 16) rfl ?_
  refine e_getR (r := 73) fl_X11_72 dX11_playTrial_16 so_1 (rs_1_8 s3.2.2) (by decide) (pc2 := 19) rfl ?_
  obtain ⟨s5, hy4, hf⟩ := bnd_s hf
  refine e_callVn (t_X6_play  s3 hy4) dX11_playTrial_19 cv_X11_264 rfl so_73 rc_6 (by decide) (by first | exact Nat.le_of_ble_eq_true rfl | simp [rva_cat, vc_i, vc_r, vc_l, vc_n]) nn0 rfl (pc2 := 22) rfl ?_
  cases hf
  exact e_vret rfl dX11_playTrial_22
abbrev DDX11_judged : Nat := 7
def f_X11_judged_j158 (v1 : Int32) (v2 : Int32) (v3 : Int32) (v4 : Int32) (v5 : Int32) (v7 : Int32) (k33 : Int32 → Int32 → Int32 → Int32 → HS → Option (Int32 × HS)) (s : HS) : Option (Int32 × HS) :=
  (if v7 = 0 then (if v2 = (-1) then ltb (v5 + 1) fun x20 => k33 v5 v3 v4 x20 s else ltb (v5 + 1) fun x19 => k33 v2 v3 v4 x19 s) else ltb (v5 + 1) fun x17 => k33 v2 v3 v4 x17 s)
set_option maxRecDepth 20000 in
set_option maxHeartbeats 2000000 in
theorem t_X11_judged_j158 (v1 : Int32) (v2 : Int32) (v3 : Int32) (v4 : Int32) (v5 : Int32) (v7 : Int32) (s : HS) {x : Int32} {t : HS} (k33 : Int32 → Int32 → Int32 → Int32 → HS → Option (Int32 × HS)) (hk33 : ∀ (a2 : Int32) (a3 : Int32) (a4 : Int32) (a5 : Int32) (s : HS), k33 a2 a3 a4 a5 s = some (x, t) → Ev DDX11_judged miX11_judged NF (some (.int x)) NF (hp t) 33 NF [(0, .ref 1), (1, .int v1), (2, .int a2), (3, .int a3), (4, .int a4), (5, .int a5)] [] (hp s)) (hf : f_X11_judged_j158 v1 v2 v3 v4 v5 v7 k33 s = some (x, t)) : Ev DDX11_judged miX11_judged NF (some (.int x)) NF (hp t) 158 NF [(0, .ref 1), (1, .int v1), (2, .int v2), (3, .int v3), (4, .int v4), (5, .int v5), (7, .int v7)] [] (hp s) := by
  refine e_iload dX11_judged_158 6 rfl (pc2 := 160) rfl ?_
  refine e_if_ne (tgt := 171) dX11_judged_160 (by decide) (pc2 := 163) rfl (fun c16 => ?_) (fun c16 => ?_)
  · have hf := if_f c16 hf
    obtain ⟨x17, ex17, hf⟩ := ltb_s hf
    refine e_iinc dX11_judged_171 5 rfl (c9 := 1) (by decide) ex17.symm (by decide) (ls' := [(0, .ref 1), (1, .int v1), (2, .int v2), (3, .int v3), (4, .int v4), (5, .int x17)]) [1, 2, 3, 4, 5, 0] rfl (pc2 := 174) rfl ?_
    refine e_goto (tgt := 33) dX11_judged_174 (by decide) ?_
    exact hk33 v2 v3 v4 x17 s hf
  · have hf := if_t c16 hf
    refine e_iload_n dX11_judged_163 2 rfl rfl (pc2 := 164) rfl ?_
    refine e_iconst (x := (-1)) dX11_judged_164 (by decide) (pc2 := 165) rfl ?_
    refine e_icmp_ne (tgt := 171) dX11_judged_165 (by decide) (pc2 := 168) rfl (fun c18 => ?_) (fun c18 => ?_)
    · have hf := if_f c18 hf
      obtain ⟨x19, ex19, hf⟩ := ltb_s hf
      refine e_iinc dX11_judged_171 5 rfl (c9 := 1) (by decide) ex19.symm (by decide) (ls' := [(0, .ref 1), (1, .int v1), (2, .int v2), (3, .int v3), (4, .int v4), (5, .int x19)]) [1, 2, 3, 4, 5, 0] rfl (pc2 := 174) rfl ?_
      refine e_goto (tgt := 33) dX11_judged_174 (by decide) ?_
      exact hk33 v2 v3 v4 x19 s hf
    · have hf := if_t c18 hf
      refine e_iload dX11_judged_168 5 rfl (pc2 := 170) rfl ?_
      refine e_istore_n dX11_judged_170 rfl (by decide) rfl (ls' := [(0, .ref 1), (1, .int v1), (2, .int v5), (3, .int v3), (4, .int v4), (5, .int v5)]) [1, 2, 0, 3, 4, 5] rfl (pc2 := 171) rfl ?_
      obtain ⟨x20, ex20, hf⟩ := ltb_s hf
      refine e_iinc dX11_judged_171 5 rfl (c9 := 1) (by decide) ex20.symm (by decide) (ls' := [(0, .ref 1), (1, .int v1), (2, .int v5), (3, .int v3), (4, .int v4), (5, .int x20)]) [1, 2, 3, 4, 5, 0] rfl (pc2 := 174) rfl ?_
      refine e_goto (tgt := 33) dX11_judged_174 (by decide) ?_
      exact hk33 v5 v3 v4 x20 s hf
def f_X11_judged_j158_4 (v1 : Int32) (v2 : Int32) (v3 : Int32) (v4 : Int32) (v5 : Int32) (v7 : Int32) (k33 : Int32 → Int32 → Int32 → Int32 → HS → Option (Int32 × HS)) (s : HS) : Option (Int32 × HS) :=
  (if v7 = 0 then (if v2 = (-1) then ltb (v5 + 1) fun x33 => k33 v5 v3 v4 x33 s else ltb (v5 + 1) fun x32 => k33 v2 v3 v4 x32 s) else ltb (v5 + 1) fun x30 => k33 v2 v3 v4 x30 s)
set_option maxRecDepth 20000 in
set_option maxHeartbeats 2000000 in
theorem t_X11_judged_j158_4 (v1 : Int32) (v2 : Int32) (v3 : Int32) (v4 : Int32) (v5 : Int32) (v7 : Int32) (s : HS) {x : Int32} {t : HS} (k33 : Int32 → Int32 → Int32 → Int32 → HS → Option (Int32 × HS)) (hk33 : ∀ (a2 : Int32) (a3 : Int32) (a4 : Int32) (a5 : Int32) (s : HS), k33 a2 a3 a4 a5 s = some (x, t) → Ev DDX11_judged miX11_judged NF (some (.int x)) NF (hp t) 33 NF [(0, .ref 1), (1, .int v1), (2, .int a2), (3, .int a3), (4, .int a4), (5, .int a5)] [] (hp s)) (hf : f_X11_judged_j158_4 v1 v2 v3 v4 v5 v7 k33 s = some (x, t)) : Ev DDX11_judged miX11_judged NF (some (.int x)) NF (hp t) 158 NF [(0, .ref 1), (1, .int v1), (2, .int v2), (3, .int v3), (4, .int v4), (5, .int v5), (7, .int v7)] [] (hp s) := by
  refine e_iload dX11_judged_158 6 rfl (pc2 := 160) rfl ?_
  refine e_if_ne (tgt := 171) dX11_judged_160 (by decide) (pc2 := 163) rfl (fun c29 => ?_) (fun c29 => ?_)
  · have hf := if_f c29 hf
    obtain ⟨x30, ex30, hf⟩ := ltb_s hf
    refine e_iinc dX11_judged_171 5 rfl (c9 := 1) (by decide) ex30.symm (by decide) (ls' := [(0, .ref 1), (1, .int v1), (2, .int v2), (3, .int v3), (4, .int v4), (5, .int x30)]) [1, 2, 3, 4, 5, 0] rfl (pc2 := 174) rfl ?_
    refine e_goto (tgt := 33) dX11_judged_174 (by decide) ?_
    exact hk33 v2 v3 v4 x30 s hf
  · have hf := if_t c29 hf
    refine e_iload_n dX11_judged_163 2 rfl rfl (pc2 := 164) rfl ?_
    refine e_iconst (x := (-1)) dX11_judged_164 (by decide) (pc2 := 165) rfl ?_
    refine e_icmp_ne (tgt := 171) dX11_judged_165 (by decide) (pc2 := 168) rfl (fun c31 => ?_) (fun c31 => ?_)
    · have hf := if_f c31 hf
      obtain ⟨x32, ex32, hf⟩ := ltb_s hf
      refine e_iinc dX11_judged_171 5 rfl (c9 := 1) (by decide) ex32.symm (by decide) (ls' := [(0, .ref 1), (1, .int v1), (2, .int v2), (3, .int v3), (4, .int v4), (5, .int x32)]) [1, 2, 3, 4, 5, 0] rfl (pc2 := 174) rfl ?_
      refine e_goto (tgt := 33) dX11_judged_174 (by decide) ?_
      exact hk33 v2 v3 v4 x32 s hf
    · have hf := if_t c31 hf
      refine e_iload dX11_judged_168 5 rfl (pc2 := 170) rfl ?_
      refine e_istore_n dX11_judged_170 rfl (by decide) rfl (ls' := [(0, .ref 1), (1, .int v1), (2, .int v5), (3, .int v3), (4, .int v4), (5, .int v5)]) [1, 2, 0, 3, 4, 5] rfl (pc2 := 171) rfl ?_
      obtain ⟨x33, ex33, hf⟩ := ltb_s hf
      refine e_iinc dX11_judged_171 5 rfl (c9 := 1) (by decide) ex33.symm (by decide) (ls' := [(0, .ref 1), (1, .int v1), (2, .int v5), (3, .int v3), (4, .int v4), (5, .int x33)]) [1, 2, 3, 4, 5, 0] rfl (pc2 := 174) rfl ?_
      refine e_goto (tgt := 33) dX11_judged_174 (by decide) ?_
      exact hk33 v5 v3 v4 x33 s hf
def f_X11_judged_j106 (v1 : Int32) (v2 : Int32) (v3 : Int32) (v4 : Int32) (v5 : Int32) (w0 : Int32) (k33 : Int32 → Int32 → Int32 → Int32 → HS → Option (Int32 × HS)) (s : HS) : Option (Int32 × HS) :=
  f_X11_judged_j158_4 v1 v2 v3 v4 v5 w0 k33 s
set_option maxRecDepth 20000 in
set_option maxHeartbeats 2000000 in
theorem t_X11_judged_j106 (v1 : Int32) (v2 : Int32) (v3 : Int32) (v4 : Int32) (v5 : Int32) (w0 : Int32) (s : HS) {x : Int32} {t : HS} (k33 : Int32 → Int32 → Int32 → Int32 → HS → Option (Int32 × HS)) (hk33 : ∀ (a2 : Int32) (a3 : Int32) (a4 : Int32) (a5 : Int32) (s : HS), k33 a2 a3 a4 a5 s = some (x, t) → Ev DDX11_judged miX11_judged NF (some (.int x)) NF (hp t) 33 NF [(0, .ref 1), (1, .int v1), (2, .int a2), (3, .int a3), (4, .int a4), (5, .int a5)] [] (hp s)) (hf : f_X11_judged_j106 v1 v2 v3 v4 v5 w0 k33 s = some (x, t)) : Ev DDX11_judged miX11_judged NF (some (.int x)) NF (hp t) 106 NF [(0, .ref 1), (1, .int v1), (2, .int v2), (3, .int v3), (4, .int v4), (5, .int v5)] [.int w0] (hp s) := by
  refine e_istore dX11_judged_106 (by decide) rfl (ls' := [(0, .ref 1), (1, .int v1), (2, .int v2), (3, .int v3), (4, .int v4), (5, .int v5), (7, .int w0)]) [1, 2, 3, 4, 5, 6, 0] rfl (pc2 := 108) rfl ?_
  refine e_goto (tgt := 158) dX11_judged_108 (by decide) ?_
  exact t_X11_judged_j158_4 v1 v2 v3 v4 v5 w0 s _ hk33 hf
def f_X11_judged_l33b (v1 : Int32) (v2 : Int32) (v3 : Int32) (v4 : Int32) (v5 : Int32) (k33 : Int32 → Int32 → Int32 → Int32 → HS → Option (Int32 × HS)) (k177 : Int32 → Int32 → Int32 → HS → Option (Int32 × HS)) (s : HS) : Option (Int32 × HS) :=
  (if (s.1 64 6) ≤ v5 then k177 v2 v3 v4 s else ltb (v5 * 3) fun x7 => gd (inb x7 120) ((if (s.1 66 x7.toNatClampNeg) = 5 then bnd (f_X11_playTrial s) fun s22 => bnd (f_X6_paid s22) fun y23 => ltb (v3 + y23) fun x24 => bnd (f_X6_drunkInAll s22) fun y25 => ltb (v4 + y25) fun x26 => bnd (f_X6_drunkInAll s22) fun y27 => (if y27 ≤ 0 then f_X11_judged_j106 v1 v2 x24 x26 v5 0 k33 s22 else f_X11_judged_j106 v1 v2 x24 x26 v5 1 k33 s22) else gd (okX4 (s.2.2.1)) (gd (inb x7 120) (gd (inb (x7 + 1) 120) (gd (inb (x7 + 2) 120) (bnd2 (f_X7_change 28 (s.2.2.1) (s.1 66 x7.toNatClampNeg) (s.1 66 (x7 + 1).toNatClampNeg) (s.1 66 (x7 + 2).toNatClampNeg) s) fun y14 s15 => f_X11_judged_j158 v1 v2 v3 v4 v5 y14 k33 s15)))))))
set_option maxRecDepth 20000 in
set_option maxHeartbeats 2000000 in
theorem t_X11_judged_l33b (v1 : Int32) (v2 : Int32) (v3 : Int32) (v4 : Int32) (v5 : Int32) (s : HS) {x : Int32} {t : HS} (k33 : Int32 → Int32 → Int32 → Int32 → HS → Option (Int32 × HS)) (hk33 : ∀ (a2 : Int32) (a3 : Int32) (a4 : Int32) (a5 : Int32) (s : HS), k33 a2 a3 a4 a5 s = some (x, t) → Ev DDX11_judged miX11_judged NF (some (.int x)) NF (hp t) 33 NF [(0, .ref 1), (1, .int v1), (2, .int a2), (3, .int a3), (4, .int a4), (5, .int a5)] [] (hp s)) (k177 : Int32 → Int32 → Int32 → HS → Option (Int32 × HS)) (hk177 : ∀ (a2 : Int32) (a3 : Int32) (a4 : Int32) (s : HS), k177 a2 a3 a4 s = some (x, t) → Ev DDX11_judged miX11_judged NF (some (.int x)) NF (hp t) 177 NF [(1, .int v1), (2, .int a2), (3, .int a3), (4, .int a4)] [] (hp s)) (hf : f_X11_judged_l33b v1 v2 v3 v4 v5 k33 k177 s = some (x, t)) : Ev DDX11_judged miX11_judged NF (some (.int x)) NF (hp t) 33 NF [(0, .ref 1), (1, .int v1), (2, .int v2), (3, .int v3), (4, .int v4), (5, .int v5)] [] (hp s) := by
  refine e_iload dX11_judged_33 5 rfl (pc2 := 35) rfl ?_
  refine e_aload_n dX11_judged_35 0 rfl rfl (pc2 := 36) rfl ?_
  refine e_getR (r := 64) fl_X11_64 dX11_judged_36 so_1 (rs_1_5 s.2.2) (by decide) (pc2 := 39) rfl ?_
  refine e_getI fl_X11_182 dX11_judged_39 (okX7_o (show okX7 64 = true from rfl)) (by decide) (pc2 := 42) rfl ?_
  refine e_icmp_ge (tgt := 177) dX11_judged_42 (by decide) (pc2 := 45) rfl (fun c6 => ?_) (fun c6 => ?_)
  · have hf := if_t c6 hf
    refine ev_sub [1, 2, 3, 4] rfl ?_
    exact hk177 v2 v3 v4 s hf
  · have hf := if_f c6 hf
    refine e_iload dX11_judged_45 5 rfl (pc2 := 47) rfl ?_
    refine e_iconst (x := 3) dX11_judged_47 (by decide) (pc2 := 48) rfl ?_
    refine e_imul dX11_judged_48 (pc2 := 49) rfl ?_
    obtain ⟨x7, ex7, hf⟩ := ltb_s hf
    refine e_istore dX11_judged_49 (by decide) ex7.symm (ls' := [(0, .ref 1), (1, .int v1), (2, .int v2), (3, .int v3), (4, .int v4), (5, .int v5), (6, .int x7)]) [1, 2, 3, 4, 5, 6, 0] rfl (pc2 := 51) rfl ?_
    refine e_aload_n dX11_judged_51 0 rfl rfl (pc2 := 52) rfl ?_
    refine e_getR (r := 64) fl_X11_64 dX11_judged_52 so_1 (rs_1_5 s.2.2) (by decide) (pc2 := 55) rfl ?_
    refine e_getR (r := 66) fl_X11_183 dX11_judged_55 (okX7_o (show okX7 64 = true from rfl)) (rs_64_5 s.2.2) (by decide) (pc2 := 58) rfl ?_
    refine e_iload dX11_judged_58 6 rfl (pc2 := 60) rfl ?_
    obtain ⟨g8, hf⟩ := gd_some hf
    refine e_iald dX11_judged_60 sa_66 (inb_v g8) (pc2 := 61) rfl ?_
    refine e_iconst (x := 5) dX11_judged_61 (by decide) (pc2 := 62) rfl ?_
    refine e_icmp_ne (tgt := 111) dX11_judged_62 (by decide) (pc2 := 65) rfl (fun c9 => ?_) (fun c9 => ?_)
    · have hf := if_f c9 hf
      refine e_aload_n dX11_judged_111 0 rfl rfl (pc2 := 112) rfl ?_
      refine e_getR (r := 28) fl_X11_19 dX11_judged_112 so_1 (rs_1_6 s.2.2) (by decide) (pc2 := 115) rfl ?_
      refine e_aload_n dX11_judged_115 0 rfl rfl (pc2 := 116) rfl ?_
      obtain ⟨g10, hf⟩ := gd_some hf
      refine e_getR (r := s.2.2.1) fl_X11_61 dX11_judged_116 so_1 rfl (okX4_ne g10) (pc2 := 119) rfl ?_
      refine e_aload_n dX11_judged_119 0 rfl rfl (pc2 := 120) rfl ?_
      refine e_getR (r := 64) fl_X11_64 dX11_judged_120 so_1 (rs_1_5 s.2.2) (by decide) (pc2 := 123) rfl ?_
      refine e_getR (r := 66) fl_X11_183 dX11_judged_123 (okX7_o (show okX7 64 = true from rfl)) (rs_64_5 s.2.2) (by decide) (pc2 := 126) rfl ?_
      refine e_iload dX11_judged_126 6 rfl (pc2 := 128) rfl ?_
      obtain ⟨g11, hf⟩ := gd_some hf
      refine e_iald dX11_judged_128 sa_66 (inb_v g11) (pc2 := 129) rfl ?_
      refine e_aload_n dX11_judged_129 0 rfl rfl (pc2 := 130) rfl ?_
      refine e_getR (r := 64) fl_X11_64 dX11_judged_130 so_1 (rs_1_5 s.2.2) (by decide) (pc2 := 133) rfl ?_
      refine e_getR (r := 66) fl_X11_183 dX11_judged_133 (okX7_o (show okX7 64 = true from rfl)) (rs_64_5 s.2.2) (by decide) (pc2 := 136) rfl ?_
      refine e_iload dX11_judged_136 6 rfl (pc2 := 138) rfl ?_
      refine e_iconst (x := 1) dX11_judged_138 (by decide) (pc2 := 139) rfl ?_
      refine e_iadd dX11_judged_139 (pc2 := 140) rfl ?_
      obtain ⟨g12, hf⟩ := gd_some hf
      refine e_iald dX11_judged_140 sa_66 (inb_v g12) (pc2 := 141) rfl ?_
      refine e_aload_n dX11_judged_141 0 rfl rfl (pc2 := 142) rfl ?_
      refine e_getR (r := 64) fl_X11_64 dX11_judged_142 so_1 (rs_1_5 s.2.2) (by decide) (pc2 := 145) rfl ?_
      refine e_getR (r := 66) fl_X11_183 dX11_judged_145 (okX7_o (show okX7 64 = true from rfl)) (rs_64_5 s.2.2) (by decide) (pc2 := 148) rfl ?_
      refine e_iload dX11_judged_148 6 rfl (pc2 := 150) rfl ?_
      refine e_iconst (x := 2) dX11_judged_150 (by decide) (pc2 := 151) rfl ?_
      refine e_iadd dX11_judged_151 (pc2 := 152) rfl ?_
      obtain ⟨g13, hf⟩ := gd_some hf
      refine e_iald dX11_judged_152 sa_66 (inb_v g13) (pc2 := 153) rfl ?_
      obtain ⟨y14, s15, hy14, hf⟩ := bnd2_s hf
      refine e_callVs (t_X7_change 28 (show okX7 28 = true from rfl) (s.2.2.1) g10 (s.1 66 x7.toNatClampNeg) (s.1 66 (x7 + 1).toNatClampNeg) (s.1 66 (x7 + 2).toNatClampNeg) s hy14) dX11_judged_153 cv_X11_178 rfl (okX7_o (show okX7 28 = true from rfl)) rc_7 (by decide) (by first | exact Nat.le_of_ble_eq_true rfl | simp [rva_cat, vc_i, vc_r, vc_l, vc_n]) nn0 rfl (pc2 := 156) rfl ?_
      refine e_istore dX11_judged_156 (by decide) rfl (ls' := [(0, .ref 1), (1, .int v1), (2, .int v2), (3, .int v3), (4, .int v4), (5, .int v5), (7, .int y14)]) [1, 2, 3, 4, 5, 6, 0] rfl (pc2 := 158) rfl ?_
      exact t_X11_judged_j158 v1 v2 v3 v4 v5 y14 s15 _ hk33 hf
    · have hf := if_t c9 hf
      refine e_aload_n dX11_judged_65 0 rfl rfl (pc2 := 66) rfl ?_
      obtain ⟨s22, hy21, hf⟩ := bnd_s hf
      refine e_callVn (t_X11_playTrial  s hy21) dX11_judged_66 cv_X11_184 rfl so_1 rc_10 (by decide) (by first | exact Nat.le_of_ble_eq_true rfl | simp [rva_cat, vc_i, vc_r, vc_l, vc_n]) nn0 rfl (pc2 := 69) rfl ?_
      refine e_iload_n dX11_judged_69 3 rfl rfl (pc2 := 70) rfl ?_
      refine e_aload_n dX11_judged_70 0 rfl rfl (pc2 := 71) rfl ?_
      refine e_getR (r := 73) fl_X11_72 dX11_judged_71 so_1 (rs_1_8 s22.2.2) (by decide) (pc2 := 74) rfl ?_
      obtain ⟨y23, hy23, hf⟩ := bnd_s hf
      refine e_callVs (t_X6_paid  s22 hy23) dX11_judged_74 cv_X11_187 rfl so_73 rc_6 (by decide) (by first | exact Nat.le_of_ble_eq_true rfl | simp [rva_cat, vc_i, vc_r, vc_l, vc_n]) nn0 rfl (pc2 := 77) rfl ?_
      refine e_iadd dX11_judged_77 (pc2 := 78) rfl ?_
      obtain ⟨x24, ex24, hf⟩ := ltb_s hf
      refine e_istore_n dX11_judged_78 rfl (by decide) ex24.symm (ls' := [(0, .ref 1), (1, .int v1), (2, .int v2), (3, .int x24), (4, .int v4), (5, .int v5)]) [1, 2, 3, 0, 4, 5] rfl (pc2 := 79) rfl ?_
      refine e_iload dX11_judged_79 4 rfl (pc2 := 81) rfl ?_
      refine e_aload_n dX11_judged_81 0 rfl rfl (pc2 := 82) rfl ?_
      refine e_getR (r := 73) fl_X11_72 dX11_judged_82 so_1 (rs_1_8 s22.2.2) (by decide) (pc2 := 85) rfl ?_
      obtain ⟨y25, hy25, hf⟩ := bnd_s hf
      refine e_callVs (t_X6_drunkInAll  s22 hy25) dX11_judged_85 cv_X11_191 rfl so_73 rc_6 (by decide) (by first | exact Nat.le_of_ble_eq_true rfl | simp [rva_cat, vc_i, vc_r, vc_l, vc_n]) nn0 rfl (pc2 := 88) rfl ?_
      refine e_iadd dX11_judged_88 (pc2 := 89) rfl ?_
      obtain ⟨x26, ex26, hf⟩ := ltb_s hf
      refine e_istore dX11_judged_89 (by decide) ex26.symm (ls' := [(0, .ref 1), (1, .int v1), (2, .int v2), (3, .int x24), (4, .int x26), (5, .int v5)]) [1, 2, 3, 4, 0, 5] rfl (pc2 := 91) rfl ?_
      refine e_aload_n dX11_judged_91 0 rfl rfl (pc2 := 92) rfl ?_
      refine e_getR (r := 73) fl_X11_72 dX11_judged_92 so_1 (rs_1_8 s22.2.2) (by decide) (pc2 := 95) rfl ?_
      obtain ⟨y27, hy27, hf⟩ := bnd_s hf
      refine e_callVs (t_X6_drunkInAll  s22 hy27) dX11_judged_95 cv_X11_191 rfl so_73 rc_6 (by decide) (by first | exact Nat.le_of_ble_eq_true rfl | simp [rva_cat, vc_i, vc_r, vc_l, vc_n]) nn0 rfl (pc2 := 98) rfl ?_
      refine e_if_le (tgt := 105) dX11_judged_98 (by decide) (pc2 := 101) rfl (fun c28 => ?_) (fun c28 => ?_)
      · have hf := if_t c28 hf
        refine e_iconst (x := 0) dX11_judged_105 (by decide) (pc2 := 106) rfl ?_
        exact t_X11_judged_j106 v1 v2 x24 x26 v5 0 s22 _ hk33 hf
      · have hf := if_f c28 hf
        refine e_iconst (x := 1) dX11_judged_101 (by decide) (pc2 := 102) rfl ?_
        refine e_goto (tgt := 106) dX11_judged_102 (by decide) ?_
        exact t_X11_judged_j106 v1 v2 x24 x26 v5 1 s22 _ hk33 hf
def f_X11_judged_l33 (v1 : Int32) (k177 : Int32 → Int32 → Int32 → HS → Option (Int32 × HS)) : Nat → Int32 → Int32 → Int32 → Int32 → HS → Option (Int32 × HS)
  | 0, _, _, _, _, _ => none
  | n + 1, v2, v3, v4, v5, s => f_X11_judged_l33b v1 v2 v3 v4 v5 (f_X11_judged_l33 v1 k177 n) k177 s
set_option maxRecDepth 20000 in
set_option maxHeartbeats 2000000 in
theorem t_X11_judged_l33 (v1 : Int32) {x : Int32} {t : HS} (k177 : Int32 → Int32 → Int32 → HS → Option (Int32 × HS)) (hk177 : ∀ (a2 : Int32) (a3 : Int32) (a4 : Int32) (s : HS), k177 a2 a3 a4 s = some (x, t) → Ev DDX11_judged miX11_judged NF (some (.int x)) NF (hp t) 177 NF [(1, .int v1), (2, .int a2), (3, .int a3), (4, .int a4)] [] (hp s)) : ∀ (n : Nat) (v2 : Int32) (v3 : Int32) (v4 : Int32) (v5 : Int32) (s : HS), f_X11_judged_l33 v1 k177 n v2 v3 v4 v5 s = some (x, t) → Ev DDX11_judged miX11_judged NF (some (.int x)) NF (hp t) 33 NF [(0, .ref 1), (1, .int v1), (2, .int v2), (3, .int v3), (4, .int v4), (5, .int v5)] [] (hp s) := by
  intro n
  induction n with
  | zero =>
    intro v2 v3 v4 v5 s hf
    have hf : none = some (x, t) := hf
    cases hf
  | succ n ih =>
    intro v2 v3 v4 v5 s hf
    exact t_X11_judged_l33b v1 v2 v3 v4 v5  s _ ih _ hk177 hf
def f_X11_judged (v1 : Int32) (s : HS) : Option (Int32 × HS) :=
  (if v1 < 0 then some ((-2), s) else (if v1 ≤ 2 then gd (okX4 (s.2.2.1)) (bnd (f_X7_startWith 28 (s.2.2.1) s) fun s5 => f_X11_judged_l33 v1 (fun v34 v35 v36 s37 => (if v1 = 0 then some (v34, s37) else (if v1 = 1 then some (v35, s37) else some (v36, s37)))) FU (-1) 0 0 0 s5) else some ((-2), s)))
set_option maxRecDepth 20000 in
set_option maxHeartbeats 2000000 in
theorem t_X11_judged (v1 : Int32) (s : HS) {x : Int32} {t : HS} (hf : f_X11_judged  v1 s = some (x, t)) : Mt DDX11_judged miX11_judged [.ref 1, .int v1] NF (hp s) (some (.int x)) NF (hp t) := by
  refine Mt.of (by decide +kernel) (Nat.le_refl _) (Nat.le_of_ble_eq_true rfl) ?_
  show Ev DDX11_judged miX11_judged NF (some (.int x)) NF (hp t) 0 NF [(0, .ref 1), (1, .int v1)] [] (hp s)
  unfold f_X11_judged at hf
  refine e_iload_n dX11_judged_0 1 rfl rfl (pc2 := 1) rfl ?_
  refine e_if_lt (tgt := 9) dX11_judged_1 (by decide) (pc2 := 4) rfl (fun c1 => ?_) (fun c1 => ?_)
  · have hf := if_t c1 hf
    refine e_bipush (x := (-2)) dX11_judged_9 (by decide) (pc2 := 11) rfl ?_
    cases hf
    exact e_iret rfl dX11_judged_11
  · have hf := if_f c1 hf
    refine e_iload_n dX11_judged_4 1 rfl rfl (pc2 := 5) rfl ?_
    refine e_iconst (x := 2) dX11_judged_5 (by decide) (pc2 := 6) rfl ?_
    refine e_icmp_le (tgt := 12) dX11_judged_6 (by decide) (pc2 := 9) rfl (fun c2 => ?_) (fun c2 => ?_)
    · have hf := if_t c2 hf
      refine e_aload_n dX11_judged_12 0 rfl rfl (pc2 := 13) rfl ?_
      refine e_getR (r := 28) fl_X11_19 dX11_judged_13 so_1 (rs_1_6 s.2.2) (by decide) (pc2 := 16) rfl ?_
      refine e_aload_n dX11_judged_16 0 rfl rfl (pc2 := 17) rfl ?_
      obtain ⟨g3, hf⟩ := gd_some hf
      refine e_getR (r := s.2.2.1) fl_X11_61 dX11_judged_17 so_1 rfl (okX4_ne g3) (pc2 := 20) rfl ?_
      obtain ⟨s5, hy4, hf⟩ := bnd_s hf
      refine e_callVn (t_X7_startWith 28 (show okX7 28 = true from rfl) (s.2.2.1) g3 s hy4) dX11_judged_20 cv_X11_37 rfl (okX7_o (show okX7 28 = true from rfl)) rc_7 (by decide) (by first | exact Nat.le_of_ble_eq_true rfl | simp [rva_cat, vc_i, vc_r, vc_l, vc_n]) nn0 rfl (pc2 := 23) rfl ?_
      refine e_iconst (x := (-1)) dX11_judged_23 (by decide) (pc2 := 24) rfl ?_
      refine e_istore_n dX11_judged_24 rfl (by decide) rfl (ls' := [(0, .ref 1), (1, .int v1), (2, .int (-1))]) [1, 2, 0] rfl (pc2 := 25) rfl ?_
      refine e_iconst (x := 0) dX11_judged_25 (by decide) (pc2 := 26) rfl ?_
      refine e_istore_n dX11_judged_26 rfl (by decide) rfl (ls' := [(0, .ref 1), (1, .int v1), (2, .int (-1)), (3, .int 0)]) [1, 2, 3, 0] rfl (pc2 := 27) rfl ?_
      refine e_iconst (x := 0) dX11_judged_27 (by decide) (pc2 := 28) rfl ?_
      refine e_istore dX11_judged_28 (by decide) rfl (ls' := [(0, .ref 1), (1, .int v1), (2, .int (-1)), (3, .int 0), (4, .int 0)]) [1, 2, 3, 4, 0] rfl (pc2 := 30) rfl ?_
      refine e_iconst (x := 0) dX11_judged_30 (by decide) (pc2 := 31) rfl ?_
      refine e_istore dX11_judged_31 (by decide) rfl (ls' := [(0, .ref 1), (1, .int v1), (2, .int (-1)), (3, .int 0), (4, .int 0), (5, .int 0)]) [1, 2, 3, 4, 5, 0] rfl (pc2 := 33) rfl ?_
      refine t_X11_judged_l33 v1 _ ?_ FU (-1) 0 0 0 s5 hf
      · intro v34 v35 v36 s37 hf
        refine e_iload_n dX11_judged_177 0 rfl rfl (pc2 := 178) rfl ?_
        refine e_if_ne (tgt := 185) dX11_judged_178 (by decide) (pc2 := 181) rfl (fun c38 => ?_) (fun c38 => ?_)
        · have hf := if_f c38 hf
          refine e_iload_n dX11_judged_185 0 rfl rfl (pc2 := 186) rfl ?_
          refine e_iconst (x := 1) dX11_judged_186 (by decide) (pc2 := 187) rfl ?_
          refine e_icmp_ne (tgt := 194) dX11_judged_187 (by decide) (pc2 := 190) rfl (fun c39 => ?_) (fun c39 => ?_)
          · have hf := if_f c39 hf
            refine e_iload dX11_judged_194 3 rfl (pc2 := 196) rfl ?_
            cases hf
            exact e_iret rfl dX11_judged_196
          · have hf := if_t c39 hf
            refine e_iload_n dX11_judged_190 2 rfl rfl (pc2 := 191) rfl ?_
            refine e_goto (tgt := 196) dX11_judged_191 (by decide) ?_
            cases hf
            exact e_iret rfl dX11_judged_196
        · have hf := if_t c38 hf
          refine e_iload_n dX11_judged_181 1 rfl rfl (pc2 := 182) rfl ?_
          refine e_goto (tgt := 196) dX11_judged_182 (by decide) ?_
          cases hf
          exact e_iret rfl dX11_judged_196
    · have hf := if_f c2 hf
      refine e_bipush (x := (-2)) dX11_judged_9 (by decide) (pc2 := 11) rfl ?_
      cases hf
      exact e_iret rfl dX11_judged_11
abbrev DDX11_playNow : Nat := 6
def f_X11_playNow  (s : HS) : Option HS :=
  gd (okX4 (s.2.2.1)) (bnd (f_X6_layOut (s.2.2.1) 64 s) fun s3 => bnd (f_X6_play s3) fun s5 => some s5)
set_option maxRecDepth 20000 in
set_option maxHeartbeats 2000000 in
theorem t_X11_playNow  (s : HS) {t : HS} (hf : f_X11_playNow  s = some t) : Mt DDX11_playNow miX11_playNow [.ref 1] NF (hp s) none NF (hp t) := by
  refine Mt.of (by decide +kernel) (Nat.le_refl _) (Nat.le_of_ble_eq_true rfl) ?_
  show Ev DDX11_playNow miX11_playNow NF none NF (hp t) 0 NF [(0, .ref 1)] [] (hp s)
  unfold f_X11_playNow at hf
  refine e_aload_n dX11_playNow_0 0 rfl rfl (pc2 := 1) rfl ?_
  refine e_getR (r := 73) fl_X11_72 dX11_playNow_1 so_1 (rs_1_8 s.2.2) (by decide) (pc2 := 4) rfl ?_
  refine e_aload_n dX11_playNow_4 0 rfl rfl (pc2 := 5) rfl ?_
  obtain ⟨g1, hf⟩ := gd_some hf
  refine e_getR (r := s.2.2.1) fl_X11_61 dX11_playNow_5 so_1 rfl (okX4_ne g1) (pc2 := 8) rfl ?_
  refine e_aload_n dX11_playNow_8 0 rfl rfl (pc2 := 9) rfl ?_
  refine e_getR (r := 64) fl_X11_64 dX11_playNow_9 so_1 (rs_1_5 s.2.2) (by decide) (pc2 := 12) rfl ?_
  obtain ⟨s3, hy2, hf⟩ := bnd_s hf
  refine e_callVn (t_X6_layOut (s.2.2.1) g1 64 (show okX7 64 = true from rfl) s hy2) dX11_playNow_12 cv_X11_258 rfl so_73 rc_6 (by decide) (by first | exact Nat.le_of_ble_eq_true rfl | simp [rva_cat, vc_i, vc_r, vc_l, vc_n]) nn0 rfl (pc2 := 15) rfl ?_
  refine e_aload_n dX11_playNow_15 0 rfl rfl (pc2 := 16) rfl ?_
  refine e_getR (r := 73) fl_X11_72 dX11_playNow_16 so_1 (rs_1_8 s3.2.2) (by decide) (pc2 := 19) rfl ?_
  obtain ⟨s5, hy4, hf⟩ := bnd_s hf
  refine e_callVn (t_X6_play  s3 hy4) dX11_playNow_19 cv_X11_264 rfl so_73 rc_6 (by decide) (by first | exact Nat.le_of_ble_eq_true rfl | simp [rva_cat, vc_i, vc_r, vc_l, vc_n]) nn0 rfl (pc2 := 22) rfl ?_
  cases hf
  exact e_vret rfl dX11_playNow_22
abbrev DDX11_served : Nat := 7
def f_X11_served (v1 : Int32) (v2 : Int32) (s : HS) : Option (Int32 × HS) :=
  bnd (f_X11_isBuyer v1 s) fun y1 => (if y1 = 0 then some ((-2), s) else (if (((s.1 64 0) >>> (v1 &&& 31)) &&& (1 : Int32)) = 0 then some ((-2), s) else bnd (f_X11_playNow s) fun s5 => (if v2 = 0 then gd (inb v1 6) (some (s5.1 76 v1.toNatClampNeg, s5)) else if v2 = 1 then gd (inb v1 6) (some (s5.1 77 v1.toNatClampNeg, s5)) else if v2 = 2 then gd (inb v1 6) (some (s5.1 78 v1.toNatClampNeg, s5)) else if v2 = 3 then gd (inb v1 6) (some (s5.1 79 v1.toNatClampNeg, s5)) else if v2 = 4 then some (((s5.1 73 15) >>> (v1 &&& 31)) &&& (1 : Int32), s5) else some ((-2), s5))))
set_option maxRecDepth 20000 in
set_option maxHeartbeats 2000000 in
theorem t_X11_served (v1 : Int32) (v2 : Int32) (s : HS) {x : Int32} {t : HS} (hf : f_X11_served  v1 v2 s = some (x, t)) : Mt DDX11_served miX11_served [.ref 1, .int v1, .int v2] NF (hp s) (some (.int x)) NF (hp t) := by
  refine Mt.of (by decide +kernel) (Nat.le_refl _) (Nat.le_of_ble_eq_true rfl) ?_
  show Ev DDX11_served miX11_served NF (some (.int x)) NF (hp t) 0 NF [(0, .ref 1), (1, .int v1), (2, .int v2)] [] (hp s)
  unfold f_X11_served at hf
  refine e_aload_n dX11_served_0 0 rfl rfl (pc2 := 1) rfl ?_
  refine e_iload_n dX11_served_1 1 rfl rfl (pc2 := 2) rfl ?_
  obtain ⟨y1, hy1, hf⟩ := bnd_s hf
  refine e_callVs (t_X11_isBuyer v1 s hy1) dX11_served_2 cv_X11_134 rfl so_1 rc_10 (by decide) (by first | exact Nat.le_of_ble_eq_true rfl | simp [rva_cat, vc_i, vc_r, vc_l, vc_n]) nn0 rfl (pc2 := 5) rfl ?_
  refine e_if_eq (tgt := 22) dX11_served_5 (by decide) (pc2 := 8) rfl (fun c2 => ?_) (fun c2 => ?_)
  · have hf := if_t c2 hf
    refine e_bipush (x := (-2)) dX11_served_22 (by decide) (pc2 := 24) rfl ?_
    cases hf
    exact e_iret rfl dX11_served_24
  · have hf := if_f c2 hf
    refine e_aload_n dX11_served_8 0 rfl rfl (pc2 := 9) rfl ?_
    refine e_getR (r := 64) fl_X11_64 dX11_served_9 so_1 (rs_1_5 s.2.2) (by decide) (pc2 := 12) rfl ?_
    refine e_getI fl_X11_158 dX11_served_12 (okX7_o (show okX7 64 = true from rfl)) (by decide) (pc2 := 15) rfl ?_
    refine e_iload_n dX11_served_15 1 rfl rfl (pc2 := 16) rfl ?_
    refine e_ishr dX11_served_16 (pc2 := 17) rfl ?_
    refine e_iconst (x := 1) dX11_served_17 (by decide) (pc2 := 18) rfl ?_
    refine e_iand dX11_served_18 (pc2 := 19) rfl ?_
    refine e_if_ne (tgt := 25) dX11_served_19 (by decide) (pc2 := 22) rfl (fun c3 => ?_) (fun c3 => ?_)
    · have hf := if_f c3 hf
      refine e_aload_n dX11_served_25 0 rfl rfl (pc2 := 26) rfl ?_
      obtain ⟨s5, hy4, hf⟩ := bnd_s hf
      refine e_callVn (t_X11_playNow  s hy4) dX11_served_26 cv_X11_194 rfl so_1 rc_10 (by decide) (by first | exact Nat.le_of_ble_eq_true rfl | simp [rva_cat, vc_i, vc_r, vc_l, vc_n]) nn0 rfl (pc2 := 29) rfl ?_
      refine e_iload_n dX11_served_29 2 rfl rfl (pc2 := 30) rfl ?_
      by_cases c6 : v2 = 0
      · have hf := if_t c6 hf
        rw [c6]
        refine e_tableIn (tgt := 64) dX11_served_30 (by decide) (by decide) rfl (by decide) ?_
        refine e_aload_n dX11_served_64 0 rfl rfl (pc2 := 65) rfl ?_
        refine e_getR (r := 73) fl_X11_72 dX11_served_65 so_1 (rs_1_8 s5.2.2) (by decide) (pc2 := 68) rfl ?_
        refine e_getR (r := 76) fl_X11_197 dX11_served_68 so_73 (rs_73_10 s5.2.2) (by decide) (pc2 := 71) rfl ?_
        refine e_iload_n dX11_served_71 1 rfl rfl (pc2 := 72) rfl ?_
        obtain ⟨g7, hf⟩ := gd_some hf
        refine e_iald dX11_served_72 sa_76 (inb_v g7) (pc2 := 73) rfl ?_
        cases hf
        exact e_iret rfl dX11_served_73
      have hf := if_f c6 hf
      by_cases c8 : v2 = 1
      · have hf := if_t c8 hf
        rw [c8]
        refine e_tableIn (tgt := 74) dX11_served_30 (by decide) (by decide) rfl (by decide) ?_
        refine e_aload_n dX11_served_74 0 rfl rfl (pc2 := 75) rfl ?_
        refine e_getR (r := 73) fl_X11_72 dX11_served_75 so_1 (rs_1_8 s5.2.2) (by decide) (pc2 := 78) rfl ?_
        refine e_getR (r := 77) fl_X11_200 dX11_served_78 so_73 (rs_73_11 s5.2.2) (by decide) (pc2 := 81) rfl ?_
        refine e_iload_n dX11_served_81 1 rfl rfl (pc2 := 82) rfl ?_
        obtain ⟨g9, hf⟩ := gd_some hf
        refine e_iald dX11_served_82 sa_77 (inb_v g9) (pc2 := 83) rfl ?_
        cases hf
        exact e_iret rfl dX11_served_83
      have hf := if_f c8 hf
      by_cases c10 : v2 = 2
      · have hf := if_t c10 hf
        rw [c10]
        refine e_tableIn (tgt := 84) dX11_served_30 (by decide) (by decide) rfl (by decide) ?_
        refine e_aload_n dX11_served_84 0 rfl rfl (pc2 := 85) rfl ?_
        refine e_getR (r := 73) fl_X11_72 dX11_served_85 so_1 (rs_1_8 s5.2.2) (by decide) (pc2 := 88) rfl ?_
        refine e_getR (r := 78) fl_X11_203 dX11_served_88 so_73 (rs_73_12 s5.2.2) (by decide) (pc2 := 91) rfl ?_
        refine e_iload_n dX11_served_91 1 rfl rfl (pc2 := 92) rfl ?_
        obtain ⟨g11, hf⟩ := gd_some hf
        refine e_iald dX11_served_92 sa_78 (inb_v g11) (pc2 := 93) rfl ?_
        cases hf
        exact e_iret rfl dX11_served_93
      have hf := if_f c10 hf
      by_cases c12 : v2 = 3
      · have hf := if_t c12 hf
        rw [c12]
        refine e_tableIn (tgt := 94) dX11_served_30 (by decide) (by decide) rfl (by decide) ?_
        refine e_aload_n dX11_served_94 0 rfl rfl (pc2 := 95) rfl ?_
        refine e_getR (r := 73) fl_X11_72 dX11_served_95 so_1 (rs_1_8 s5.2.2) (by decide) (pc2 := 98) rfl ?_
        refine e_getR (r := 79) fl_X11_206 dX11_served_98 so_73 (rs_73_13 s5.2.2) (by decide) (pc2 := 101) rfl ?_
        refine e_iload_n dX11_served_101 1 rfl rfl (pc2 := 102) rfl ?_
        obtain ⟨g13, hf⟩ := gd_some hf
        refine e_iald dX11_served_102 sa_79 (inb_v g13) (pc2 := 103) rfl ?_
        cases hf
        exact e_iret rfl dX11_served_103
      have hf := if_f c12 hf
      by_cases c14 : v2 = 4
      · have hf := if_t c14 hf
        rw [c14]
        refine e_tableIn (tgt := 104) dX11_served_30 (by decide) (by decide) rfl (by decide) ?_
        refine e_aload_n dX11_served_104 0 rfl rfl (pc2 := 105) rfl ?_
        refine e_getR (r := 73) fl_X11_72 dX11_served_105 so_1 (rs_1_8 s5.2.2) (by decide) (pc2 := 108) rfl ?_
        refine e_getI fl_X11_209 dX11_served_108 so_73 (by decide) (pc2 := 111) rfl ?_
        refine e_iload_n dX11_served_111 1 rfl rfl (pc2 := 112) rfl ?_
        refine e_ishr dX11_served_112 (pc2 := 113) rfl ?_
        refine e_iconst (x := 1) dX11_served_113 (by decide) (pc2 := 114) rfl ?_
        refine e_iand dX11_served_114 (pc2 := 115) rfl ?_
        cases hf
        exact e_iret rfl dX11_served_115
      have hf := if_f c14 hf
      refine e_tableOut (tgt := 116) dX11_served_30 ?_ (by decide) ?_
      · have q0 := lv_neT (a := 0) c6 (by decide)
        have q1 := lv_neT (a := 1) c8 (by decide)
        have q2 := lv_neT (a := 2) c10 (by decide)
        have q3 := lv_neT (a := 3) c12 (by decide)
        have q4 := lv_neT (a := 4) c14 (by decide)
        omega
      refine e_bipush (x := (-2)) dX11_served_116 (by decide) (pc2 := 118) rfl ?_
      cases hf
      exact e_iret rfl dX11_served_118
    · have hf := if_t c3 hf
      refine e_bipush (x := (-2)) dX11_served_22 (by decide) (pc2 := 24) rfl ?_
      cases hf
      exact e_iret rfl dX11_served_24
abbrev DDX11_round : Nat := 7
def f_X11_round (v1 : Int32) (s : HS) : Option (Int32 × HS) :=
  bnd (f_X11_playNow s) fun s2 => (if v1 = 0 then bnd (f_X6_paid s2) fun y4 => some (y4, s2) else if v1 = 1 then bnd (f_X6_drunkInAll s2) fun y6 => some (y6, s2) else if v1 = 2 then bnd (f_X6_leftInAll s2) fun y8 => some (y8, s2) else if v1 = 3 then some (f_J6_bitCount_0f7a4 (s2.1 73 15) s2, s2) else if v1 = 4 then bnd (f_X6_servedBy 1000000 s2) fun y11 => some (y11, s2) else some ((-1), s2))
set_option maxRecDepth 20000 in
set_option maxHeartbeats 2000000 in
theorem t_X11_round (v1 : Int32) (s : HS) {x : Int32} {t : HS} (hf : f_X11_round  v1 s = some (x, t)) : Mt DDX11_round miX11_round [.ref 1, .int v1] NF (hp s) (some (.int x)) NF (hp t) := by
  refine Mt.of (by decide +kernel) (Nat.le_refl _) (Nat.le_of_ble_eq_true rfl) ?_
  show Ev DDX11_round miX11_round NF (some (.int x)) NF (hp t) 0 NF [(0, .ref 1), (1, .int v1)] [] (hp s)
  unfold f_X11_round at hf
  refine e_aload_n dX11_round_0 0 rfl rfl (pc2 := 1) rfl ?_
  obtain ⟨s2, hy1, hf⟩ := bnd_s hf
  refine e_callVn (t_X11_playNow  s hy1) dX11_round_1 cv_X11_194 rfl so_1 rc_10 (by decide) (by first | exact Nat.le_of_ble_eq_true rfl | simp [rva_cat, vc_i, vc_r, vc_l, vc_n]) nn0 rfl (pc2 := 4) rfl ?_
  refine e_iload_n dX11_round_4 1 rfl rfl (pc2 := 5) rfl ?_
  by_cases c3 : v1 = 0
  · have hf := if_t c3 hf
    rw [c3]
    refine e_tableIn (tgt := 40) dX11_round_5 (by decide) (by decide) rfl (by decide) ?_
    refine e_aload_n dX11_round_40 0 rfl rfl (pc2 := 41) rfl ?_
    refine e_getR (r := 73) fl_X11_72 dX11_round_41 so_1 (rs_1_8 s2.2.2) (by decide) (pc2 := 44) rfl ?_
    obtain ⟨y4, hy4, hf⟩ := bnd_s hf
    refine e_callVs (t_X6_paid  s2 hy4) dX11_round_44 cv_X11_187 rfl so_73 rc_6 (by decide) (by first | exact Nat.le_of_ble_eq_true rfl | simp [rva_cat, vc_i, vc_r, vc_l, vc_n]) nn0 rfl (pc2 := 47) rfl ?_
    cases hf
    exact e_iret rfl dX11_round_47
  have hf := if_f c3 hf
  by_cases c5 : v1 = 1
  · have hf := if_t c5 hf
    rw [c5]
    refine e_tableIn (tgt := 48) dX11_round_5 (by decide) (by decide) rfl (by decide) ?_
    refine e_aload_n dX11_round_48 0 rfl rfl (pc2 := 49) rfl ?_
    refine e_getR (r := 73) fl_X11_72 dX11_round_49 so_1 (rs_1_8 s2.2.2) (by decide) (pc2 := 52) rfl ?_
    obtain ⟨y6, hy6, hf⟩ := bnd_s hf
    refine e_callVs (t_X6_drunkInAll  s2 hy6) dX11_round_52 cv_X11_191 rfl so_73 rc_6 (by decide) (by first | exact Nat.le_of_ble_eq_true rfl | simp [rva_cat, vc_i, vc_r, vc_l, vc_n]) nn0 rfl (pc2 := 55) rfl ?_
    cases hf
    exact e_iret rfl dX11_round_55
  have hf := if_f c5 hf
  by_cases c7 : v1 = 2
  · have hf := if_t c7 hf
    rw [c7]
    refine e_tableIn (tgt := 56) dX11_round_5 (by decide) (by decide) rfl (by decide) ?_
    refine e_aload_n dX11_round_56 0 rfl rfl (pc2 := 57) rfl ?_
    refine e_getR (r := 73) fl_X11_72 dX11_round_57 so_1 (rs_1_8 s2.2.2) (by decide) (pc2 := 60) rfl ?_
    obtain ⟨y8, hy8, hf⟩ := bnd_s hf
    refine e_callVs (t_X6_leftInAll  s2 hy8) dX11_round_60 cv_X11_212 rfl so_73 rc_6 (by decide) (by first | exact Nat.le_of_ble_eq_true rfl | simp [rva_cat, vc_i, vc_r, vc_l, vc_n]) nn0 rfl (pc2 := 63) rfl ?_
    cases hf
    exact e_iret rfl dX11_round_63
  have hf := if_f c7 hf
  by_cases c9 : v1 = 3
  · have hf := if_t c9 hf
    rw [c9]
    refine e_tableIn (tgt := 64) dX11_round_5 (by decide) (by decide) rfl (by decide) ?_
    refine e_aload_n dX11_round_64 0 rfl rfl (pc2 := 65) rfl ?_
    refine e_getR (r := 73) fl_X11_72 dX11_round_65 so_1 (rs_1_8 s2.2.2) (by decide) (pc2 := 68) rfl ?_
    refine e_getI fl_X11_209 dX11_round_68 so_73 (by decide) (pc2 := 71) rfl ?_
    refine e_callSs (t_J6_bitCount_0f7a4 (s2.1 73 15) s2 rfl) dX11_round_71 cs_X11_215 rfl (by decide) (by first | exact Nat.le_of_ble_eq_true rfl | simp [rva_cat, vc_i, vc_r, vc_l, vc_n]) nn0 rfl (pc2 := 74) rfl ?_
    cases hf
    exact e_iret rfl dX11_round_74
  have hf := if_f c9 hf
  by_cases c10 : v1 = 4
  · have hf := if_t c10 hf
    rw [c10]
    refine e_tableIn (tgt := 75) dX11_round_5 (by decide) (by decide) rfl (by decide) ?_
    refine e_aload_n dX11_round_75 0 rfl rfl (pc2 := 76) rfl ?_
    refine e_getR (r := 73) fl_X11_72 dX11_round_76 so_1 (rs_1_8 s2.2.2) (by decide) (pc2 := 79) rfl ?_
    refine e_ldc dX11_round_79 lk_X11_221 (pc2 := 81) rfl ?_
    obtain ⟨y11, hy11, hf⟩ := bnd_s hf
    refine e_callVs (t_X6_servedBy 1000000 s2 hy11) dX11_round_81 cv_X11_222 rfl so_73 rc_6 (by decide) (by first | exact Nat.le_of_ble_eq_true rfl | simp [rva_cat, vc_i, vc_r, vc_l, vc_n]) nn0 rfl (pc2 := 84) rfl ?_
    cases hf
    exact e_iret rfl dX11_round_84
  have hf := if_f c10 hf
  refine e_tableOut (tgt := 85) dX11_round_5 ?_ (by decide) ?_
  · have q0 := lv_neT (a := 0) c3 (by decide)
    have q1 := lv_neT (a := 1) c5 (by decide)
    have q2 := lv_neT (a := 2) c7 (by decide)
    have q3 := lv_neT (a := 3) c9 (by decide)
    have q4 := lv_neT (a := 4) c10 (by decide)
    omega
  refine e_iconst (x := (-1)) dX11_round_85 (by decide) (pc2 := 86) rfl ?_
  cases hf
  exact e_iret rfl dX11_round_86
abbrev DDX11_weightOf : Nat := 1
def f_X11_weightOf_l5b (v1 : Int32) (v2 : Int32) (v3 : Int64) (v5 : Int32) (k5 : Int64 → Int32 → Option Int64) (s : HS) : Option Int64 :=
  gd (okX4 (s.2.2.1)) ((if (s.1 (s.2.2.1) 14) ≤ v5 then some v3 else (if v5 = v2 then ltb (v5 + 1) fun x4 => k5 v3 x4 else gd (okX4 (s.2.2.1)) (gd (inb v5 6) (ltb (s.1 (Rf (Rf (s.2.2.1) 15) v5.toNatClampNeg) 3) fun x7 => (if ((v1 >>> (v5 &&& 31)) &&& (1 : Int32)) = 0 then ltb (v3 * ((10 - x7 : Int32).toInt64)) fun x9 => ltb (v5 + 1) fun x10 => k5 x9 x10 else ltb (v3 * ((x7 : Int32).toInt64)) fun x11 => ltb (v5 + 1) fun x12 => k5 x11 x12))))))
set_option maxRecDepth 20000 in
set_option maxHeartbeats 2000000 in
theorem t_X11_weightOf_l5b (v1 : Int32) (v2 : Int32) (v3 : Int64) (v5 : Int32) (s : HS) {x : Int64} (k5 : Int64 → Int32 → Option Int64) (hk5 : ∀ (a3 : Int64) (a5 : Int32), k5 a3 a5 = some x → Ev DDX11_weightOf miX11_weightOf NF (some (.long x)) NF (hp s) 5 NF [(0, .ref 1), (1, .int v1), (2, .int v2), (3, .long a3), (5, .int a5)] [] (hp s)) (hf : f_X11_weightOf_l5b v1 v2 v3 v5 k5 s = some x) : Ev DDX11_weightOf miX11_weightOf NF (some (.long x)) NF (hp s) 5 NF [(0, .ref 1), (1, .int v1), (2, .int v2), (3, .long v3), (5, .int v5)] [] (hp s) := by
  refine e_iload dX11_weightOf_5 4 rfl (pc2 := 7) rfl ?_
  refine e_aload_n dX11_weightOf_7 0 rfl rfl (pc2 := 8) rfl ?_
  obtain ⟨g1, hf⟩ := gd_some hf
  refine e_getR (r := s.2.2.1) fl_X11_61 dX11_weightOf_8 so_1 rfl (okX4_ne g1) (pc2 := 11) rfl ?_
  refine e_getI fl_X11_229 dX11_weightOf_11 (okX4_o g1) (by decide) (pc2 := 14) rfl ?_
  refine e_icmp_ge (tgt := 68) dX11_weightOf_14 (by decide) (pc2 := 17) rfl (fun c2 => ?_) (fun c2 => ?_)
  · have hf := if_t c2 hf
    refine e_lload_n dX11_weightOf_68 3 rfl rfl (pc2 := 69) rfl ?_
    cases hf
    exact e_lret rfl dX11_weightOf_69
  · have hf := if_f c2 hf
    refine e_iload dX11_weightOf_17 4 rfl (pc2 := 19) rfl ?_
    refine e_iload_n dX11_weightOf_19 2 rfl rfl (pc2 := 20) rfl ?_
    refine e_icmp_eq (tgt := 62) dX11_weightOf_20 (by decide) (pc2 := 23) rfl (fun c3 => ?_) (fun c3 => ?_)
    · have hf := if_t c3 hf
      obtain ⟨x4, ex4, hf⟩ := ltb_s hf
      refine e_iinc dX11_weightOf_62 4 rfl (c9 := 1) (by decide) ex4.symm (by decide) (ls' := [(0, .ref 1), (1, .int v1), (2, .int v2), (3, .long v3), (5, .int x4)]) [1, 2, 3, 4, 0] rfl (pc2 := 65) rfl ?_
      refine e_goto (tgt := 5) dX11_weightOf_65 (by decide) ?_
      exact hk5 v3 x4 hf
    · have hf := if_f c3 hf
      refine e_aload_n dX11_weightOf_23 0 rfl rfl (pc2 := 24) rfl ?_
      obtain ⟨g5, hf⟩ := gd_some hf
      refine e_getR (r := s.2.2.1) fl_X11_61 dX11_weightOf_24 so_1 rfl (okX4_ne g5) (pc2 := 27) rfl ?_
      refine e_getR (r := Rf (s.2.2.1) 15) fl_X11_137 dX11_weightOf_27 (okX4_o g5) (okX4_R g5) (isA_ne (okX4_buyer g5)) (pc2 := 30) rfl ?_
      refine e_iload dX11_weightOf_30 4 rfl (pc2 := 32) rfl ?_
      obtain ⟨g6, hf⟩ := gd_some hf
      refine e_aald (r := Rf (Rf (s.2.2.1) 15) v5.toNatClampNeg) dX11_weightOf_32 (okX4_buyer g5) (by decide) (inb_v g6) (Rs_na (q := s.2.2) (okX4_buyer g5) (by decide)) (okX0_ne (okX4_buyer_el g5 (inb_v g6))) (pc2 := 33) rfl ?_
      refine e_getI fl_X11_149 dX11_weightOf_33 (okX0_o (okX4_buyer_el g5 (inb_v g6))) (by decide) (pc2 := 36) rfl ?_
      obtain ⟨x7, ex7, hf⟩ := ltb_s hf
      refine e_istore dX11_weightOf_36 (by decide) ex7.symm (ls' := [(0, .ref 1), (1, .int v1), (2, .int v2), (3, .long v3), (5, .int v5), (6, .int x7)]) [1, 2, 3, 4, 5, 0] rfl (pc2 := 38) rfl ?_
      refine e_lload_n dX11_weightOf_38 3 rfl rfl (pc2 := 39) rfl ?_
      refine e_iload_n dX11_weightOf_39 1 rfl rfl (pc2 := 40) rfl ?_
      refine e_iload dX11_weightOf_40 4 rfl (pc2 := 42) rfl ?_
      refine e_ishr dX11_weightOf_42 (pc2 := 43) rfl ?_
      refine e_iconst (x := 1) dX11_weightOf_43 (by decide) (pc2 := 44) rfl ?_
      refine e_iand dX11_weightOf_44 (pc2 := 45) rfl ?_
      refine e_if_eq (tgt := 54) dX11_weightOf_45 (by decide) (pc2 := 48) rfl (fun c8 => ?_) (fun c8 => ?_)
      · have hf := if_t c8 hf
        refine e_bipush (x := 10) dX11_weightOf_54 (by decide) (pc2 := 56) rfl ?_
        refine e_iload dX11_weightOf_56 5 rfl (pc2 := 58) rfl ?_
        refine e_isub dX11_weightOf_58 (pc2 := 59) rfl ?_
        refine e_i2l dX11_weightOf_59 (pc2 := 60) rfl ?_
        refine e_lmul dX11_weightOf_60 (pc2 := 61) rfl ?_
        obtain ⟨x9, ex9, hf⟩ := ltb_s hf
        refine e_lstore_n dX11_weightOf_61 rfl (by decide) ex9.symm (ls' := [(0, .ref 1), (1, .int v1), (2, .int v2), (3, .long x9), (5, .int v5)]) [1, 2, 3, 0, 4] rfl (pc2 := 62) rfl ?_
        obtain ⟨x10, ex10, hf⟩ := ltb_s hf
        refine e_iinc dX11_weightOf_62 4 rfl (c9 := 1) (by decide) ex10.symm (by decide) (ls' := [(0, .ref 1), (1, .int v1), (2, .int v2), (3, .long x9), (5, .int x10)]) [1, 2, 3, 4, 0] rfl (pc2 := 65) rfl ?_
        refine e_goto (tgt := 5) dX11_weightOf_65 (by decide) ?_
        exact hk5 x9 x10 hf
      · have hf := if_f c8 hf
        refine e_iload dX11_weightOf_48 5 rfl (pc2 := 50) rfl ?_
        refine e_i2l dX11_weightOf_50 (pc2 := 51) rfl ?_
        refine e_goto (tgt := 60) dX11_weightOf_51 (by decide) ?_
        refine e_lmul dX11_weightOf_60 (pc2 := 61) rfl ?_
        obtain ⟨x11, ex11, hf⟩ := ltb_s hf
        refine e_lstore_n dX11_weightOf_61 rfl (by decide) ex11.symm (ls' := [(0, .ref 1), (1, .int v1), (2, .int v2), (3, .long x11), (5, .int v5)]) [1, 2, 3, 0, 4] rfl (pc2 := 62) rfl ?_
        obtain ⟨x12, ex12, hf⟩ := ltb_s hf
        refine e_iinc dX11_weightOf_62 4 rfl (c9 := 1) (by decide) ex12.symm (by decide) (ls' := [(0, .ref 1), (1, .int v1), (2, .int v2), (3, .long x11), (5, .int x12)]) [1, 2, 3, 4, 0] rfl (pc2 := 65) rfl ?_
        refine e_goto (tgt := 5) dX11_weightOf_65 (by decide) ?_
        exact hk5 x11 x12 hf
def f_X11_weightOf_l5 (v1 : Int32) (v2 : Int32) (s : HS) : Nat → Int64 → Int32 → Option Int64
  | 0, _, _ => none
  | n + 1, v3, v5 => f_X11_weightOf_l5b v1 v2 v3 v5 (f_X11_weightOf_l5 v1 v2 s n)  s
set_option maxRecDepth 20000 in
set_option maxHeartbeats 2000000 in
theorem t_X11_weightOf_l5 (v1 : Int32) (v2 : Int32) (s : HS) {x : Int64}  : ∀ (n : Nat) (v3 : Int64) (v5 : Int32), f_X11_weightOf_l5 v1 v2 s n v3 v5 = some x → Ev DDX11_weightOf miX11_weightOf NF (some (.long x)) NF (hp s) 5 NF [(0, .ref 1), (1, .int v1), (2, .int v2), (3, .long v3), (5, .int v5)] [] (hp s) := by
  intro n
  induction n with
  | zero =>
    intro v3 v5 hf
    have hf : none = some x := hf
    cases hf
  | succ n ih =>
    intro v3 v5 hf
    exact t_X11_weightOf_l5b v1 v2 v3 v5  s _ ih  hf
def f_X11_weightOf (v1 : Int32) (v2 : Int32) (s : HS) : Option Int64 :=
  f_X11_weightOf_l5 v1 v2 s FU 1 0
set_option maxRecDepth 20000 in
set_option maxHeartbeats 2000000 in
theorem t_X11_weightOf (v1 : Int32) (v2 : Int32) (s : HS) {x : Int64} (hf : f_X11_weightOf  v1 v2 s = some x) : Mt DDX11_weightOf miX11_weightOf [.ref 1, .int v1, .int v2] NF (hp s) (some (.long x)) NF (hp s) := by
  refine Mt.of (by decide +kernel) (Nat.le_refl _) (Nat.le_of_ble_eq_true rfl) ?_
  show Ev DDX11_weightOf miX11_weightOf NF (some (.long x)) NF (hp s) 0 NF [(0, .ref 1), (1, .int v1), (2, .int v2)] [] (hp s)
  unfold f_X11_weightOf at hf
  refine e_lconst (x := 1) dX11_weightOf_0 (by decide) (pc2 := 1) rfl ?_
  refine e_lstore_n dX11_weightOf_1 rfl (by decide) rfl (ls' := [(0, .ref 1), (1, .int v1), (2, .int v2), (3, .long 1)]) [1, 2, 3, 0] rfl (pc2 := 2) rfl ?_
  refine e_iconst (x := 0) dX11_weightOf_2 (by decide) (pc2 := 3) rfl ?_
  refine e_istore dX11_weightOf_3 (by decide) rfl (ls' := [(0, .ref 1), (1, .int v1), (2, .int v2), (3, .long 1), (5, .int 0)]) [1, 2, 3, 4, 0] rfl (pc2 := 5) rfl ?_
  refine t_X11_weightOf_l5 v1 v2 s FU 1 0 hf
abbrev DDX11_chance : Nat := 7
def f_X11_chance_j65 (v1 : Int32) (v2 : Int32) (v3 : Int64) (v5 : Int64) (v7 : Int32) (w0 : Int64) (k33 : Int64 → Int64 → Int32 → HS → Option (Int32 × HS)) (s : HS) : Option (Int32 × HS) :=
  ltb (v5 + w0) fun x9 => (if (lg_cmp w0 0) ≤ 0 then ltb (v7 + 1) fun x11 => k33 v3 x9 x11 s else ltb (sI s 28 0 (v7 ||| v2)) fun s12 => bnd (f_X11_playTrial s12) fun s14 => gd (inb v1 6) (gd (okX4 (s14.2.2.1)) (gd (inb v1 6) ((if (s14.1 78 v1.toNatClampNeg) = (s14.1 (Rf (Rf (s14.2.2.1) 15) v1.toNatClampNeg) 7) then (if ((s14.1 73 15) &&& v2) = 0 then ltb (v3 + w0) fun x22 => ltb (v7 + 1) fun x23 => k33 x22 x9 x23 s14 else ltb (v7 + 1) fun x21 => k33 v3 x9 x21 s14) else ltb (v7 + 1) fun x19 => k33 v3 x9 x19 s14)))))
set_option maxRecDepth 20000 in
set_option maxHeartbeats 2000000 in
theorem t_X11_chance_j65 (v1 : Int32) (v2 : Int32) (v3 : Int64) (v5 : Int64) (v7 : Int32) (w0 : Int64) (s : HS) {x : Int32} {t : HS} (k33 : Int64 → Int64 → Int32 → HS → Option (Int32 × HS)) (hk33 : ∀ (a3 : Int64) (a5 : Int64) (a7 : Int32) (s : HS), k33 a3 a5 a7 s = some (x, t) → Ev DDX11_chance miX11_chance NF (some (.int x)) NF (hp t) 33 NF [(0, .ref 1), (1, .int v1), (2, .int v2), (3, .long a3), (5, .long a5), (7, .int a7)] [] (hp s)) (hf : f_X11_chance_j65 v1 v2 v3 v5 v7 w0 k33 s = some (x, t)) : Ev DDX11_chance miX11_chance NF (some (.int x)) NF (hp t) 65 NF [(0, .ref 1), (1, .int v1), (2, .int v2), (3, .long v3), (5, .long v5), (7, .int v7)] [.long w0] (hp s) := by
  refine e_lstore dX11_chance_65 (by decide) rfl (ls' := [(0, .ref 1), (1, .int v1), (2, .int v2), (3, .long v3), (5, .long v5), (7, .int v7), (8, .long w0)]) [1, 2, 3, 4, 5, 6, 0] rfl (pc2 := 67) rfl ?_
  refine e_lload dX11_chance_67 4 rfl (pc2 := 69) rfl ?_
  refine e_lload dX11_chance_69 6 rfl (pc2 := 71) rfl ?_
  refine e_ladd dX11_chance_71 (pc2 := 72) rfl ?_
  obtain ⟨x9, ex9, hf⟩ := ltb_s hf
  refine e_lstore dX11_chance_72 (by decide) ex9.symm (ls' := [(0, .ref 1), (1, .int v1), (2, .int v2), (3, .long v3), (5, .long x9), (7, .int v7), (8, .long w0)]) [1, 2, 3, 4, 0, 5, 6] rfl (pc2 := 74) rfl ?_
  refine e_lload dX11_chance_74 6 rfl (pc2 := 76) rfl ?_
  refine e_lconst (x := 0) dX11_chance_76 (by decide) (pc2 := 77) rfl ?_
  refine e_lcmp dX11_chance_77 (pc2 := 78) rfl ?_
  refine e_if_le (tgt := 137) dX11_chance_78 (by decide) (pc2 := 81) rfl (fun c10 => ?_) (fun c10 => ?_)
  · have hf := if_t c10 hf
    obtain ⟨x11, ex11, hf⟩ := ltb_s hf
    refine e_iinc dX11_chance_137 5 rfl (c9 := 1) (by decide) ex11.symm (by decide) (ls' := [(0, .ref 1), (1, .int v1), (2, .int v2), (3, .long v3), (5, .long x9), (7, .int x11)]) [1, 2, 3, 4, 5, 0] rfl (pc2 := 140) rfl ?_
    refine e_goto (tgt := 33) dX11_chance_140 (by decide) ?_
    exact hk33 v3 x9 x11 s hf
  · have hf := if_f c10 hf
    refine e_aload_n dX11_chance_81 0 rfl rfl (pc2 := 82) rfl ?_
    refine e_getR (r := 28) fl_X11_19 dX11_chance_82 so_1 (rs_1_6 s.2.2) (by decide) (pc2 := 85) rfl ?_
    refine e_iload dX11_chance_85 5 rfl (pc2 := 87) rfl ?_
    refine e_iload_n dX11_chance_87 2 rfl rfl (pc2 := 88) rfl ?_
    refine e_ior dX11_chance_88 (pc2 := 89) rfl ?_
    obtain ⟨s12, es12, hf⟩ := ltb_s hf
    refine e_putI fl_X11_158 dX11_chance_89 (okX7_o (show okX7 28 = true from rfl)) fn_7_0 (h2 := hp s12) (by rw [es12]; rfl) (pc2 := 92) rfl ?_
    refine e_aload_n dX11_chance_92 0 rfl rfl (pc2 := 93) rfl ?_
    obtain ⟨s14, hy13, hf⟩ := bnd_s hf
    refine e_callVn (t_X11_playTrial  s12 hy13) dX11_chance_93 cv_X11_184 rfl so_1 rc_10 (by decide) (by first | exact Nat.le_of_ble_eq_true rfl | simp [rva_cat, vc_i, vc_r, vc_l, vc_n]) nn0 rfl (pc2 := 96) rfl ?_
    refine e_aload_n dX11_chance_96 0 rfl rfl (pc2 := 97) rfl ?_
    refine e_getR (r := 73) fl_X11_72 dX11_chance_97 so_1 (rs_1_8 s14.2.2) (by decide) (pc2 := 100) rfl ?_
    refine e_getR (r := 78) fl_X11_203 dX11_chance_100 so_73 (rs_73_12 s14.2.2) (by decide) (pc2 := 103) rfl ?_
    refine e_iload_n dX11_chance_103 1 rfl rfl (pc2 := 104) rfl ?_
    obtain ⟨g15, hf⟩ := gd_some hf
    refine e_iald dX11_chance_104 sa_78 (inb_v g15) (pc2 := 105) rfl ?_
    refine e_aload_n dX11_chance_105 0 rfl rfl (pc2 := 106) rfl ?_
    obtain ⟨g16, hf⟩ := gd_some hf
    refine e_getR (r := s14.2.2.1) fl_X11_61 dX11_chance_106 so_1 rfl (okX4_ne g16) (pc2 := 109) rfl ?_
    refine e_getR (r := Rf (s14.2.2.1) 15) fl_X11_137 dX11_chance_109 (okX4_o g16) (okX4_R g16) (isA_ne (okX4_buyer g16)) (pc2 := 112) rfl ?_
    refine e_iload_n dX11_chance_112 1 rfl rfl (pc2 := 113) rfl ?_
    obtain ⟨g17, hf⟩ := gd_some hf
    refine e_aald (r := Rf (Rf (s14.2.2.1) 15) v1.toNatClampNeg) dX11_chance_113 (okX4_buyer g16) (by decide) (inb_v g17) (Rs_na (q := s14.2.2) (okX4_buyer g16) (by decide)) (okX0_ne (okX4_buyer_el g16 (inb_v g17))) (pc2 := 114) rfl ?_
    refine e_getI fl_X11_155 dX11_chance_114 (okX0_o (okX4_buyer_el g16 (inb_v g17))) (by decide) (pc2 := 117) rfl ?_
    refine e_icmp_ne (tgt := 137) dX11_chance_117 (by decide) (pc2 := 120) rfl (fun c18 => ?_) (fun c18 => ?_)
    · have hf := if_f c18 hf
      obtain ⟨x19, ex19, hf⟩ := ltb_s hf
      refine e_iinc dX11_chance_137 5 rfl (c9 := 1) (by decide) ex19.symm (by decide) (ls' := [(0, .ref 1), (1, .int v1), (2, .int v2), (3, .long v3), (5, .long x9), (7, .int x19)]) [1, 2, 3, 4, 5, 0] rfl (pc2 := 140) rfl ?_
      refine e_goto (tgt := 33) dX11_chance_140 (by decide) ?_
      exact hk33 v3 x9 x19 s14 hf
    · have hf := if_t c18 hf
      refine e_aload_n dX11_chance_120 0 rfl rfl (pc2 := 121) rfl ?_
      refine e_getR (r := 73) fl_X11_72 dX11_chance_121 so_1 (rs_1_8 s14.2.2) (by decide) (pc2 := 124) rfl ?_
      refine e_getI fl_X11_209 dX11_chance_124 so_73 (by decide) (pc2 := 127) rfl ?_
      refine e_iload_n dX11_chance_127 2 rfl rfl (pc2 := 128) rfl ?_
      refine e_iand dX11_chance_128 (pc2 := 129) rfl ?_
      refine e_if_ne (tgt := 137) dX11_chance_129 (by decide) (pc2 := 132) rfl (fun c20 => ?_) (fun c20 => ?_)
      · have hf := if_f c20 hf
        obtain ⟨x21, ex21, hf⟩ := ltb_s hf
        refine e_iinc dX11_chance_137 5 rfl (c9 := 1) (by decide) ex21.symm (by decide) (ls' := [(0, .ref 1), (1, .int v1), (2, .int v2), (3, .long v3), (5, .long x9), (7, .int x21)]) [1, 2, 3, 4, 5, 0] rfl (pc2 := 140) rfl ?_
        refine e_goto (tgt := 33) dX11_chance_140 (by decide) ?_
        exact hk33 v3 x9 x21 s14 hf
      · have hf := if_t c20 hf
        refine e_lload_n dX11_chance_132 3 rfl rfl (pc2 := 133) rfl ?_
        refine e_lload dX11_chance_133 6 rfl (pc2 := 135) rfl ?_
        refine e_ladd dX11_chance_135 (pc2 := 136) rfl ?_
        obtain ⟨x22, ex22, hf⟩ := ltb_s hf
        refine e_lstore_n dX11_chance_136 rfl (by decide) ex22.symm (ls' := [(0, .ref 1), (1, .int v1), (2, .int v2), (3, .long x22), (5, .long x9), (7, .int v7)]) [1, 2, 3, 0, 4, 5] rfl (pc2 := 137) rfl ?_
        obtain ⟨x23, ex23, hf⟩ := ltb_s hf
        refine e_iinc dX11_chance_137 5 rfl (c9 := 1) (by decide) ex23.symm (by decide) (ls' := [(0, .ref 1), (1, .int v1), (2, .int v2), (3, .long x22), (5, .long x9), (7, .int x23)]) [1, 2, 3, 4, 5, 0] rfl (pc2 := 140) rfl ?_
        refine e_goto (tgt := 33) dX11_chance_140 (by decide) ?_
        exact hk33 x22 x9 x23 s14 hf
def f_X11_chance_l33b (v1 : Int32) (v2 : Int32) (v3 : Int64) (v5 : Int64) (v7 : Int32) (k33 : Int64 → Int64 → Int32 → HS → Option (Int32 × HS)) (k143 : Int64 → Int64 → HS → Option (Int32 × HS)) (s : HS) : Option (Int32 × HS) :=
  gd (okX4 (s.2.2.1)) ((if ((1 : Int32) <<< ((s.1 (s.2.2.1) 14) &&& 31)) ≤ v7 then k143 v3 v5 s else (if (v7 &&& v2) = 0 then bnd (f_X11_weightOf v7 v1 s) fun y24 => f_X11_chance_j65 v1 v2 v3 v5 v7 y24 k33 s else f_X11_chance_j65 v1 v2 v3 v5 v7 0 k33 s)))
set_option maxRecDepth 20000 in
set_option maxHeartbeats 2000000 in
theorem t_X11_chance_l33b (v1 : Int32) (v2 : Int32) (v3 : Int64) (v5 : Int64) (v7 : Int32) (s : HS) {x : Int32} {t : HS} (k33 : Int64 → Int64 → Int32 → HS → Option (Int32 × HS)) (hk33 : ∀ (a3 : Int64) (a5 : Int64) (a7 : Int32) (s : HS), k33 a3 a5 a7 s = some (x, t) → Ev DDX11_chance miX11_chance NF (some (.int x)) NF (hp t) 33 NF [(0, .ref 1), (1, .int v1), (2, .int v2), (3, .long a3), (5, .long a5), (7, .int a7)] [] (hp s)) (k143 : Int64 → Int64 → HS → Option (Int32 × HS)) (hk143 : ∀ (a3 : Int64) (a5 : Int64) (s : HS), k143 a3 a5 s = some (x, t) → Ev DDX11_chance miX11_chance NF (some (.int x)) NF (hp t) 143 NF [(3, .long a3), (5, .long a5)] [] (hp s)) (hf : f_X11_chance_l33b v1 v2 v3 v5 v7 k33 k143 s = some (x, t)) : Ev DDX11_chance miX11_chance NF (some (.int x)) NF (hp t) 33 NF [(0, .ref 1), (1, .int v1), (2, .int v2), (3, .long v3), (5, .long v5), (7, .int v7)] [] (hp s) := by
  refine e_iload dX11_chance_33 5 rfl (pc2 := 35) rfl ?_
  refine e_iconst (x := 1) dX11_chance_35 (by decide) (pc2 := 36) rfl ?_
  refine e_aload_n dX11_chance_36 0 rfl rfl (pc2 := 37) rfl ?_
  obtain ⟨g6, hf⟩ := gd_some hf
  refine e_getR (r := s.2.2.1) fl_X11_61 dX11_chance_37 so_1 rfl (okX4_ne g6) (pc2 := 40) rfl ?_
  refine e_getI fl_X11_229 dX11_chance_40 (okX4_o g6) (by decide) (pc2 := 43) rfl ?_
  refine e_ishl dX11_chance_43 (pc2 := 44) rfl ?_
  refine e_icmp_ge (tgt := 143) dX11_chance_44 (by decide) (pc2 := 47) rfl (fun c7 => ?_) (fun c7 => ?_)
  · have hf := if_t c7 hf
    refine ev_sub [3, 4] rfl ?_
    exact hk143 v3 v5 s hf
  · have hf := if_f c7 hf
    refine e_iload dX11_chance_47 5 rfl (pc2 := 49) rfl ?_
    refine e_iload_n dX11_chance_49 2 rfl rfl (pc2 := 50) rfl ?_
    refine e_iand dX11_chance_50 (pc2 := 51) rfl ?_
    refine e_if_ne (tgt := 64) dX11_chance_51 (by decide) (pc2 := 54) rfl (fun c8 => ?_) (fun c8 => ?_)
    · have hf := if_f c8 hf
      refine e_lconst (x := 0) dX11_chance_64 (by decide) (pc2 := 65) rfl ?_
      exact t_X11_chance_j65 v1 v2 v3 v5 v7 0 s _ hk33 hf
    · have hf := if_t c8 hf
      refine e_aload_n dX11_chance_54 0 rfl rfl (pc2 := 55) rfl ?_
      refine e_iload dX11_chance_55 5 rfl (pc2 := 57) rfl ?_
      refine e_iload_n dX11_chance_57 1 rfl rfl (pc2 := 58) rfl ?_
      obtain ⟨y24, hy24, hf⟩ := bnd_s hf
      refine e_callVs (t_X11_weightOf v7 v1 s hy24) dX11_chance_58 cv_X11_232 rfl so_1 rc_10 (by decide) (by first | exact Nat.le_of_ble_eq_true rfl | simp [rva_cat, vc_i, vc_r, vc_l, vc_n]) nn0 rfl (pc2 := 61) rfl ?_
      refine e_goto (tgt := 65) dX11_chance_61 (by decide) ?_
      exact t_X11_chance_j65 v1 v2 v3 v5 v7 y24 s _ hk33 hf
def f_X11_chance_l33 (v1 : Int32) (v2 : Int32) (k143 : Int64 → Int64 → HS → Option (Int32 × HS)) : Nat → Int64 → Int64 → Int32 → HS → Option (Int32 × HS)
  | 0, _, _, _, _ => none
  | n + 1, v3, v5, v7, s => f_X11_chance_l33b v1 v2 v3 v5 v7 (f_X11_chance_l33 v1 v2 k143 n) k143 s
set_option maxRecDepth 20000 in
set_option maxHeartbeats 2000000 in
theorem t_X11_chance_l33 (v1 : Int32) (v2 : Int32) {x : Int32} {t : HS} (k143 : Int64 → Int64 → HS → Option (Int32 × HS)) (hk143 : ∀ (a3 : Int64) (a5 : Int64) (s : HS), k143 a3 a5 s = some (x, t) → Ev DDX11_chance miX11_chance NF (some (.int x)) NF (hp t) 143 NF [(3, .long a3), (5, .long a5)] [] (hp s)) : ∀ (n : Nat) (v3 : Int64) (v5 : Int64) (v7 : Int32) (s : HS), f_X11_chance_l33 v1 v2 k143 n v3 v5 v7 s = some (x, t) → Ev DDX11_chance miX11_chance NF (some (.int x)) NF (hp t) 33 NF [(0, .ref 1), (1, .int v1), (2, .int v2), (3, .long v3), (5, .long v5), (7, .int v7)] [] (hp s) := by
  intro n
  induction n with
  | zero =>
    intro v3 v5 v7 s hf
    have hf : none = some (x, t) := hf
    cases hf
  | succ n ih =>
    intro v3 v5 v7 s hf
    exact t_X11_chance_l33b v1 v2 v3 v5 v7  s _ ih _ hk143 hf
def f_X11_chance (v1 : Int32) (s : HS) : Option (Int32 × HS) :=
  bnd (f_X11_isBuyer v1 s) fun y1 => (if y1 = 0 then some ((-1), s) else bnd (f_X7_copyHand 28 64 s) fun s4 => ltb ((1 : Int32) <<< (v1 &&& 31)) fun x5 => f_X11_chance_l33 v1 x5 (fun v25 v26 s27 => (if (lg_cmp v26 0) ≤ 0 then some (0, s27) else gd (!(v26 == 0)) (some (((v25 * 1000000) / v26 : Int64).toInt32, s27)))) FU 0 0 0 s4)
set_option maxRecDepth 20000 in
set_option maxHeartbeats 2000000 in
theorem t_X11_chance (v1 : Int32) (s : HS) {x : Int32} {t : HS} (hf : f_X11_chance  v1 s = some (x, t)) : Mt DDX11_chance miX11_chance [.ref 1, .int v1] NF (hp s) (some (.int x)) NF (hp t) := by
  refine Mt.of (by decide +kernel) (Nat.le_refl _) (Nat.le_of_ble_eq_true rfl) ?_
  show Ev DDX11_chance miX11_chance NF (some (.int x)) NF (hp t) 0 NF [(0, .ref 1), (1, .int v1)] [] (hp s)
  unfold f_X11_chance at hf
  refine e_aload_n dX11_chance_0 0 rfl rfl (pc2 := 1) rfl ?_
  refine e_iload_n dX11_chance_1 1 rfl rfl (pc2 := 2) rfl ?_
  obtain ⟨y1, hy1, hf⟩ := bnd_s hf
  refine e_callVs (t_X11_isBuyer v1 s hy1) dX11_chance_2 cv_X11_134 rfl so_1 rc_10 (by decide) (by first | exact Nat.le_of_ble_eq_true rfl | simp [rva_cat, vc_i, vc_r, vc_l, vc_n]) nn0 rfl (pc2 := 5) rfl ?_
  refine e_if_ne (tgt := 10) dX11_chance_5 (by decide) (pc2 := 8) rfl (fun c2 => ?_) (fun c2 => ?_)
  · have hf := if_f c2 hf
    refine e_aload_n dX11_chance_10 0 rfl rfl (pc2 := 11) rfl ?_
    refine e_getR (r := 28) fl_X11_19 dX11_chance_11 so_1 (rs_1_6 s.2.2) (by decide) (pc2 := 14) rfl ?_
    refine e_aload_n dX11_chance_14 0 rfl rfl (pc2 := 15) rfl ?_
    refine e_getR (r := 64) fl_X11_64 dX11_chance_15 so_1 (rs_1_5 s.2.2) (by decide) (pc2 := 18) rfl ?_
    obtain ⟨s4, hy3, hf⟩ := bnd_s hf
    refine e_callVn (t_X7_copyHand 28 (show okX7 28 = true from rfl) 64 (show okX7 64 = true from rfl) s hy3) dX11_chance_18 cv_X11_225 rfl (okX7_o (show okX7 28 = true from rfl)) rc_7 (by decide) (by first | exact Nat.le_of_ble_eq_true rfl | simp [rva_cat, vc_i, vc_r, vc_l, vc_n]) nn0 rfl (pc2 := 21) rfl ?_
    refine e_iconst (x := 1) dX11_chance_21 (by decide) (pc2 := 22) rfl ?_
    refine e_iload_n dX11_chance_22 1 rfl rfl (pc2 := 23) rfl ?_
    refine e_ishl dX11_chance_23 (pc2 := 24) rfl ?_
    obtain ⟨x5, ex5, hf⟩ := ltb_s hf
    refine e_istore_n dX11_chance_24 rfl (by decide) ex5.symm (ls' := [(0, .ref 1), (1, .int v1), (2, .int x5)]) [1, 2, 0] rfl (pc2 := 25) rfl ?_
    refine e_lconst (x := 0) dX11_chance_25 (by decide) (pc2 := 26) rfl ?_
    refine e_lstore_n dX11_chance_26 rfl (by decide) rfl (ls' := [(0, .ref 1), (1, .int v1), (2, .int x5), (3, .long 0)]) [1, 2, 3, 0] rfl (pc2 := 27) rfl ?_
    refine e_lconst (x := 0) dX11_chance_27 (by decide) (pc2 := 28) rfl ?_
    refine e_lstore dX11_chance_28 (by decide) rfl (ls' := [(0, .ref 1), (1, .int v1), (2, .int x5), (3, .long 0), (5, .long 0)]) [1, 2, 3, 4, 0] rfl (pc2 := 30) rfl ?_
    refine e_iconst (x := 0) dX11_chance_30 (by decide) (pc2 := 31) rfl ?_
    refine e_istore dX11_chance_31 (by decide) rfl (ls' := [(0, .ref 1), (1, .int v1), (2, .int x5), (3, .long 0), (5, .long 0), (7, .int 0)]) [1, 2, 3, 4, 5, 0] rfl (pc2 := 33) rfl ?_
    refine t_X11_chance_l33 v1 x5 _ ?_ FU 0 0 0 s4 hf
    · intro v25 v26 s27 hf
      refine e_lload dX11_chance_143 1 rfl (pc2 := 145) rfl ?_
      refine e_lconst (x := 0) dX11_chance_145 (by decide) (pc2 := 146) rfl ?_
      refine e_lcmp dX11_chance_146 (pc2 := 147) rfl ?_
      refine e_if_le (tgt := 162) dX11_chance_147 (by decide) (pc2 := 150) rfl (fun c28 => ?_) (fun c28 => ?_)
      · have hf := if_t c28 hf
        refine e_iconst (x := 0) dX11_chance_162 (by decide) (pc2 := 163) rfl ?_
        cases hf
        exact e_iret rfl dX11_chance_163
      · have hf := if_f c28 hf
        refine e_lload_n dX11_chance_150 0 rfl rfl (pc2 := 151) rfl ?_
        refine e_ldc2 dX11_chance_151 lk_X11_236 (pc2 := 154) rfl ?_
        refine e_lmul dX11_chance_154 (pc2 := 155) rfl ?_
        refine e_lload dX11_chance_155 1 rfl (pc2 := 157) rfl ?_
        obtain ⟨g29, hf⟩ := gd_some hf
        refine e_ldiv dX11_chance_157 (ne_g g29) (pc2 := 158) rfl ?_
        refine e_l2i dX11_chance_158 (pc2 := 159) rfl ?_
        refine e_goto (tgt := 163) dX11_chance_159 (by decide) ?_
        cases hf
        exact e_iret rfl dX11_chance_163
  · have hf := if_t c2 hf
    refine e_iconst (x := (-1)) dX11_chance_8 (by decide) (pc2 := 9) rfl ?_
    cases hf
    exact e_iret rfl dX11_chance_9
abbrev DDX11_isSome : Nat := 1
def f_X11_isSome (v1 : Int32) (s : HS) : Option Int32 :=
  (if v1 ≤ 0 then some 0 else gd (okX4 (s.2.2.1)) ((if ((1 : Int32) <<< ((s.1 (s.2.2.1) 14) &&& 31)) ≤ v1 then some 0 else some 1)))
set_option maxRecDepth 20000 in
set_option maxHeartbeats 2000000 in
theorem t_X11_isSome (v1 : Int32) (s : HS) {x : Int32} (hf : f_X11_isSome  v1 s = some x) : Mt DDX11_isSome miX11_isSome [.ref 1, .int v1] NF (hp s) (some (.int x)) NF (hp s) := by
  refine Mt.of (by decide +kernel) (Nat.le_refl _) (Nat.le_of_ble_eq_true rfl) ?_
  show Ev DDX11_isSome miX11_isSome NF (some (.int x)) NF (hp s) 0 NF [(0, .ref 1), (1, .int v1)] [] (hp s)
  unfold f_X11_isSome at hf
  refine e_iload_n dX11_isSome_0 1 rfl rfl (pc2 := 1) rfl ?_
  refine e_if_le (tgt := 21) dX11_isSome_1 (by decide) (pc2 := 4) rfl (fun c1 => ?_) (fun c1 => ?_)
  · have hf := if_t c1 hf
    refine e_iconst (x := 0) dX11_isSome_21 (by decide) (pc2 := 22) rfl ?_
    cases hf
    exact e_zret (by decide) rfl dX11_isSome_22
  · have hf := if_f c1 hf
    refine e_iload_n dX11_isSome_4 1 rfl rfl (pc2 := 5) rfl ?_
    refine e_iconst (x := 1) dX11_isSome_5 (by decide) (pc2 := 6) rfl ?_
    refine e_aload_n dX11_isSome_6 0 rfl rfl (pc2 := 7) rfl ?_
    obtain ⟨g2, hf⟩ := gd_some hf
    refine e_getR (r := s.2.2.1) fl_X11_61 dX11_isSome_7 so_1 rfl (okX4_ne g2) (pc2 := 10) rfl ?_
    refine e_getI fl_X11_229 dX11_isSome_10 (okX4_o g2) (by decide) (pc2 := 13) rfl ?_
    refine e_ishl dX11_isSome_13 (pc2 := 14) rfl ?_
    refine e_icmp_ge (tgt := 21) dX11_isSome_14 (by decide) (pc2 := 17) rfl (fun c3 => ?_) (fun c3 => ?_)
    · have hf := if_t c3 hf
      refine e_iconst (x := 0) dX11_isSome_21 (by decide) (pc2 := 22) rfl ?_
      cases hf
      exact e_zret (by decide) rfl dX11_isSome_22
    · have hf := if_f c3 hf
      refine e_iconst (x := 1) dX11_isSome_17 (by decide) (pc2 := 18) rfl ?_
      refine e_goto (tgt := 22) dX11_isSome_18 (by decide) ?_
      cases hf
      exact e_zret (by decide) rfl dX11_isSome_22
abbrev DDX11_errandSecond : Nat := 6
def f_X11_errandSecond (v1 : Int32) (v2 : Int32) (s : HS) : Option (Int32 × HS) :=
  bnd (f_X7_copyHand 28 64 s) fun s2 => ltb (sI s2 28 0 (((s2.1 64 0) &&& (v1 ^^^ ((-1) : Int32))) ||| ((1 : Int32) <<< (v2 &&& 31)))) fun s3 => gd (okX4 (s3.2.2.1)) (bnd (f_X6_layOut (s3.2.2.1) 28 s3) fun s6 => ltb (sI s6 73 3 v1) fun s7 => ltb (sI s7 73 4 v2) fun s8 => bnd (f_X6_play s8) fun s10 => gd (inb v2 6) (ltb (s10.1 77 v2.toNatClampNeg) fun x12 => gd (inb v2 6) ((if (s10.1 75 v2.toNatClampNeg) < x12 then some ((-1), s10) else some (x12, s10)))))
set_option maxRecDepth 20000 in
set_option maxHeartbeats 2000000 in
theorem t_X11_errandSecond (v1 : Int32) (v2 : Int32) (s : HS) {x : Int32} {t : HS} (hf : f_X11_errandSecond  v1 v2 s = some (x, t)) : Mt DDX11_errandSecond miX11_errandSecond [.ref 1, .int v1, .int v2] NF (hp s) (some (.int x)) NF (hp t) := by
  refine Mt.of (by decide +kernel) (Nat.le_refl _) (Nat.le_of_ble_eq_true rfl) ?_
  show Ev DDX11_errandSecond miX11_errandSecond NF (some (.int x)) NF (hp t) 0 NF [(0, .ref 1), (1, .int v1), (2, .int v2)] [] (hp s)
  unfold f_X11_errandSecond at hf
  refine e_aload_n dX11_errandSecond_0 0 rfl rfl (pc2 := 1) rfl ?_
  refine e_getR (r := 28) fl_X11_19 dX11_errandSecond_1 so_1 (rs_1_6 s.2.2) (by decide) (pc2 := 4) rfl ?_
  refine e_aload_n dX11_errandSecond_4 0 rfl rfl (pc2 := 5) rfl ?_
  refine e_getR (r := 64) fl_X11_64 dX11_errandSecond_5 so_1 (rs_1_5 s.2.2) (by decide) (pc2 := 8) rfl ?_
  obtain ⟨s2, hy1, hf⟩ := bnd_s hf
  refine e_callVn (t_X7_copyHand 28 (show okX7 28 = true from rfl) 64 (show okX7 64 = true from rfl) s hy1) dX11_errandSecond_8 cv_X11_225 rfl (okX7_o (show okX7 28 = true from rfl)) rc_7 (by decide) (by first | exact Nat.le_of_ble_eq_true rfl | simp [rva_cat, vc_i, vc_r, vc_l, vc_n]) nn0 rfl (pc2 := 11) rfl ?_
  refine e_aload_n dX11_errandSecond_11 0 rfl rfl (pc2 := 12) rfl ?_
  refine e_getR (r := 28) fl_X11_19 dX11_errandSecond_12 so_1 (rs_1_6 s2.2.2) (by decide) (pc2 := 15) rfl ?_
  refine e_aload_n dX11_errandSecond_15 0 rfl rfl (pc2 := 16) rfl ?_
  refine e_getR (r := 64) fl_X11_64 dX11_errandSecond_16 so_1 (rs_1_5 s2.2.2) (by decide) (pc2 := 19) rfl ?_
  refine e_getI fl_X11_158 dX11_errandSecond_19 (okX7_o (show okX7 64 = true from rfl)) (by decide) (pc2 := 22) rfl ?_
  refine e_iload_n dX11_errandSecond_22 1 rfl rfl (pc2 := 23) rfl ?_
  refine e_iconst (x := (-1)) dX11_errandSecond_23 (by decide) (pc2 := 24) rfl ?_
  refine e_ixor dX11_errandSecond_24 (pc2 := 25) rfl ?_
  refine e_iand dX11_errandSecond_25 (pc2 := 26) rfl ?_
  refine e_iconst (x := 1) dX11_errandSecond_26 (by decide) (pc2 := 27) rfl ?_
  refine e_iload_n dX11_errandSecond_27 2 rfl rfl (pc2 := 28) rfl ?_
  refine e_ishl dX11_errandSecond_28 (pc2 := 29) rfl ?_
  refine e_ior dX11_errandSecond_29 (pc2 := 30) rfl ?_
  obtain ⟨s3, es3, hf⟩ := ltb_s hf
  refine e_putI fl_X11_158 dX11_errandSecond_30 (okX7_o (show okX7 28 = true from rfl)) fn_7_0 (h2 := hp s3) (by rw [es3]; rfl) (pc2 := 33) rfl ?_
  refine e_aload_n dX11_errandSecond_33 0 rfl rfl (pc2 := 34) rfl ?_
  refine e_getR (r := 73) fl_X11_72 dX11_errandSecond_34 so_1 (rs_1_8 s3.2.2) (by decide) (pc2 := 37) rfl ?_
  refine e_aload_n dX11_errandSecond_37 0 rfl rfl (pc2 := 38) rfl ?_
  obtain ⟨g4, hf⟩ := gd_some hf
  refine e_getR (r := s3.2.2.1) fl_X11_61 dX11_errandSecond_38 so_1 rfl (okX4_ne g4) (pc2 := 41) rfl ?_
  refine e_aload_n dX11_errandSecond_41 0 rfl rfl (pc2 := 42) rfl ?_
  refine e_getR (r := 28) fl_X11_19 dX11_errandSecond_42 so_1 (rs_1_6 s3.2.2) (by decide) (pc2 := 45) rfl ?_
  obtain ⟨s6, hy5, hf⟩ := bnd_s hf
  refine e_callVn (t_X6_layOut (s3.2.2.1) g4 28 (show okX7 28 = true from rfl) s3 hy5) dX11_errandSecond_45 cv_X11_258 rfl so_73 rc_6 (by decide) (by first | exact Nat.le_of_ble_eq_true rfl | simp [rva_cat, vc_i, vc_r, vc_l, vc_n]) nn0 rfl (pc2 := 48) rfl ?_
  refine e_aload_n dX11_errandSecond_48 0 rfl rfl (pc2 := 49) rfl ?_
  refine e_getR (r := 73) fl_X11_72 dX11_errandSecond_49 so_1 (rs_1_8 s6.2.2) (by decide) (pc2 := 52) rfl ?_
  refine e_iload_n dX11_errandSecond_52 1 rfl rfl (pc2 := 53) rfl ?_
  obtain ⟨s7, es7, hf⟩ := ltb_s hf
  refine e_putI fl_X11_326 dX11_errandSecond_53 so_73 fn_6_3 (h2 := hp s7) (by rw [es7]; rfl) (pc2 := 56) rfl ?_
  refine e_aload_n dX11_errandSecond_56 0 rfl rfl (pc2 := 57) rfl ?_
  refine e_getR (r := 73) fl_X11_72 dX11_errandSecond_57 so_1 (rs_1_8 s7.2.2) (by decide) (pc2 := 60) rfl ?_
  refine e_iload_n dX11_errandSecond_60 2 rfl rfl (pc2 := 61) rfl ?_
  obtain ⟨s8, es8, hf⟩ := ltb_s hf
  refine e_putI fl_X11_329 dX11_errandSecond_61 so_73 fn_6_4 (h2 := hp s8) (by rw [es8]; rfl) (pc2 := 64) rfl ?_
  refine e_aload_n dX11_errandSecond_64 0 rfl rfl (pc2 := 65) rfl ?_
  refine e_getR (r := 73) fl_X11_72 dX11_errandSecond_65 so_1 (rs_1_8 s8.2.2) (by decide) (pc2 := 68) rfl ?_
  obtain ⟨s10, hy9, hf⟩ := bnd_s hf
  refine e_callVn (t_X6_play  s8 hy9) dX11_errandSecond_68 cv_X11_264 rfl so_73 rc_6 (by decide) (by first | exact Nat.le_of_ble_eq_true rfl | simp [rva_cat, vc_i, vc_r, vc_l, vc_n]) nn0 rfl (pc2 := 71) rfl ?_
  refine e_aload_n dX11_errandSecond_71 0 rfl rfl (pc2 := 72) rfl ?_
  refine e_getR (r := 73) fl_X11_72 dX11_errandSecond_72 so_1 (rs_1_8 s10.2.2) (by decide) (pc2 := 75) rfl ?_
  refine e_getR (r := 77) fl_X11_200 dX11_errandSecond_75 so_73 (rs_73_11 s10.2.2) (by decide) (pc2 := 78) rfl ?_
  refine e_iload_n dX11_errandSecond_78 2 rfl rfl (pc2 := 79) rfl ?_
  obtain ⟨g11, hf⟩ := gd_some hf
  refine e_iald dX11_errandSecond_79 sa_77 (inb_v g11) (pc2 := 80) rfl ?_
  obtain ⟨x12, ex12, hf⟩ := ltb_s hf
  refine e_istore_n dX11_errandSecond_80 rfl (by decide) ex12.symm (ls' := [(0, .ref 1), (2, .int v2), (3, .int x12)]) [1, 3, 0] rfl (pc2 := 81) rfl ?_
  refine e_iload_n dX11_errandSecond_81 2 rfl rfl (pc2 := 82) rfl ?_
  refine e_aload_n dX11_errandSecond_82 0 rfl rfl (pc2 := 83) rfl ?_
  refine e_getR (r := 73) fl_X11_72 dX11_errandSecond_83 so_1 (rs_1_8 s10.2.2) (by decide) (pc2 := 86) rfl ?_
  refine e_getR (r := 75) fl_X11_332 dX11_errandSecond_86 so_73 (rs_73_9 s10.2.2) (by decide) (pc2 := 89) rfl ?_
  refine e_iload_n dX11_errandSecond_89 1 rfl rfl (pc2 := 90) rfl ?_
  obtain ⟨g13, hf⟩ := gd_some hf
  refine e_iald dX11_errandSecond_90 sa_75 (inb_v g13) (pc2 := 91) rfl ?_
  refine e_icmp_gt (tgt := 98) dX11_errandSecond_91 (by decide) (pc2 := 94) rfl (fun c14 => ?_) (fun c14 => ?_)
  · have hf := if_t c14 hf
    refine e_iconst (x := (-1)) dX11_errandSecond_98 (by decide) (pc2 := 99) rfl ?_
    cases hf
    exact e_iret rfl dX11_errandSecond_99
  · have hf := if_f c14 hf
    refine e_iload_n dX11_errandSecond_94 2 rfl rfl (pc2 := 95) rfl ?_
    refine e_goto (tgt := 99) dX11_errandSecond_95 (by decide) ?_
    cases hf
    exact e_iret rfl dX11_errandSecond_99
abbrev DDX11_errand : Nat := 7
def f_X11_errand_j90 (v1 : Int32) (v2 : Int32) (v3 : Int32) (v6 : Int32) (v7 : Int32) (k30 : Int32 → Int32 → Int32 → Int32 → HS → Option (Int32 × HS)) (s : HS) : Option (Int32 × HS) :=
  ltb (v6 + 1) fun x12 => k30 v3 v6 v7 x12 s
set_option maxRecDepth 20000 in
set_option maxHeartbeats 2000000 in
theorem t_X11_errand_j90 (v1 : Int32) (v2 : Int32) (v3 : Int32) (v6 : Int32) (v7 : Int32) (s : HS) {x : Int32} {t : HS} (k30 : Int32 → Int32 → Int32 → Int32 → HS → Option (Int32 × HS)) (hk30 : ∀ (a3 : Int32) (a4 : Int32) (a5 : Int32) (a6 : Int32) (s : HS), k30 a3 a4 a5 a6 s = some (x, t) → Ev DDX11_errand miX11_errand NF (some (.int x)) NF (hp t) 30 NF [(0, .ref 1), (1, .int v1), (2, .int v2), (3, .int a3), (4, .int a4), (5, .int a5), (6, .int a6)] [] (hp s)) (hf : f_X11_errand_j90 v1 v2 v3 v6 v7 k30 s = some (x, t)) : Ev DDX11_errand miX11_errand NF (some (.int x)) NF (hp t) 90 NF [(0, .ref 1), (1, .int v1), (2, .int v2), (3, .int v3), (6, .int v6), (7, .int v7)] [] (hp s) := by
  refine e_iload dX11_errand_90 4 rfl (pc2 := 92) rfl ?_
  refine e_istore dX11_errand_92 (by decide) rfl (ls' := [(0, .ref 1), (1, .int v1), (2, .int v2), (3, .int v3), (4, .int v6), (6, .int v6), (7, .int v7)]) [1, 2, 3, 4, 0, 5, 6] rfl (pc2 := 94) rfl ?_
  refine e_iload dX11_errand_94 6 rfl (pc2 := 96) rfl ?_
  refine e_istore dX11_errand_96 (by decide) rfl (ls' := [(0, .ref 1), (1, .int v1), (2, .int v2), (3, .int v3), (4, .int v6), (5, .int v7), (6, .int v6)]) [1, 2, 3, 4, 5, 0, 6] rfl (pc2 := 98) rfl ?_
  obtain ⟨x12, ex12, hf⟩ := ltb_s hf
  refine e_iinc dX11_errand_98 6 rfl (c9 := 1) (by decide) ex12.symm (by decide) (ls' := [(0, .ref 1), (1, .int v1), (2, .int v2), (3, .int v3), (4, .int v6), (5, .int v7), (6, .int x12)]) [1, 2, 3, 4, 5, 6, 0] rfl (pc2 := 101) rfl ?_
  refine e_goto (tgt := 30) dX11_errand_101 (by decide) ?_
  exact hk30 v3 v6 v7 x12 s hf
def f_X11_errand_j62 (v1 : Int32) (v2 : Int32) (v3 : Int32) (v4 : Int32) (v5 : Int32) (v6 : Int32) (w0 : Int32) (k30 : Int32 → Int32 → Int32 → Int32 → HS → Option (Int32 × HS)) (s : HS) : Option (Int32 × HS) :=
  (if w0 = (-1) then ltb (v6 + 1) fun x9 => k30 v3 v4 v5 x9 s else ltb (v3 ||| ((1 : Int32) <<< (v6 &&& 31))) fun x10 => (if v4 = (-1) then f_X11_errand_j90 v1 v2 x10 v6 w0 k30 s else (if v5 ≤ w0 then ltb (v6 + 1) fun x14 => k30 x10 v4 v5 x14 s else f_X11_errand_j90 v1 v2 x10 v6 w0 k30 s)))
set_option maxRecDepth 20000 in
set_option maxHeartbeats 2000000 in
theorem t_X11_errand_j62 (v1 : Int32) (v2 : Int32) (v3 : Int32) (v4 : Int32) (v5 : Int32) (v6 : Int32) (w0 : Int32) (s : HS) {x : Int32} {t : HS} (k30 : Int32 → Int32 → Int32 → Int32 → HS → Option (Int32 × HS)) (hk30 : ∀ (a3 : Int32) (a4 : Int32) (a5 : Int32) (a6 : Int32) (s : HS), k30 a3 a4 a5 a6 s = some (x, t) → Ev DDX11_errand miX11_errand NF (some (.int x)) NF (hp t) 30 NF [(0, .ref 1), (1, .int v1), (2, .int v2), (3, .int a3), (4, .int a4), (5, .int a5), (6, .int a6)] [] (hp s)) (hf : f_X11_errand_j62 v1 v2 v3 v4 v5 v6 w0 k30 s = some (x, t)) : Ev DDX11_errand miX11_errand NF (some (.int x)) NF (hp t) 62 NF [(0, .ref 1), (1, .int v1), (2, .int v2), (3, .int v3), (4, .int v4), (5, .int v5), (6, .int v6)] [.int w0] (hp s) := by
  refine e_istore dX11_errand_62 (by decide) rfl (ls' := [(0, .ref 1), (1, .int v1), (2, .int v2), (3, .int v3), (4, .int v4), (5, .int v5), (6, .int v6), (7, .int w0)]) [1, 2, 3, 4, 5, 6, 7, 0] rfl (pc2 := 64) rfl ?_
  refine e_iload dX11_errand_64 7 rfl (pc2 := 66) rfl ?_
  refine e_iconst (x := (-1)) dX11_errand_66 (by decide) (pc2 := 67) rfl ?_
  refine e_icmp_eq (tgt := 98) dX11_errand_67 (by decide) (pc2 := 70) rfl (fun c8 => ?_) (fun c8 => ?_)
  · have hf := if_t c8 hf
    obtain ⟨x9, ex9, hf⟩ := ltb_s hf
    refine e_iinc dX11_errand_98 6 rfl (c9 := 1) (by decide) ex9.symm (by decide) (ls' := [(0, .ref 1), (1, .int v1), (2, .int v2), (3, .int v3), (4, .int v4), (5, .int v5), (6, .int x9)]) [1, 2, 3, 4, 5, 6, 0] rfl (pc2 := 101) rfl ?_
    refine e_goto (tgt := 30) dX11_errand_101 (by decide) ?_
    exact hk30 v3 v4 v5 x9 s hf
  · have hf := if_f c8 hf
    refine e_iload_n dX11_errand_70 3 rfl rfl (pc2 := 71) rfl ?_
    refine e_iconst (x := 1) dX11_errand_71 (by decide) (pc2 := 72) rfl ?_
    refine e_iload dX11_errand_72 6 rfl (pc2 := 74) rfl ?_
    refine e_ishl dX11_errand_74 (pc2 := 75) rfl ?_
    refine e_ior dX11_errand_75 (pc2 := 76) rfl ?_
    obtain ⟨x10, ex10, hf⟩ := ltb_s hf
    refine e_istore_n dX11_errand_76 rfl (by decide) ex10.symm (ls' := [(0, .ref 1), (1, .int v1), (2, .int v2), (3, .int x10), (4, .int v4), (5, .int v5), (6, .int v6), (7, .int w0)]) [1, 2, 3, 0, 4, 5, 6, 7] rfl (pc2 := 77) rfl ?_
    refine e_iload dX11_errand_77 4 rfl (pc2 := 79) rfl ?_
    refine e_iconst (x := (-1)) dX11_errand_79 (by decide) (pc2 := 80) rfl ?_
    refine e_icmp_eq (tgt := 90) dX11_errand_80 (by decide) (pc2 := 83) rfl (fun c11 => ?_) (fun c11 => ?_)
    · have hf := if_t c11 hf
      refine ev_sub [0, 1, 2, 3, 6, 7] rfl ?_
      exact t_X11_errand_j90 v1 v2 x10 v6 w0 s _ hk30 hf
    · have hf := if_f c11 hf
      refine e_iload dX11_errand_83 7 rfl (pc2 := 85) rfl ?_
      refine e_iload dX11_errand_85 5 rfl (pc2 := 87) rfl ?_
      refine e_icmp_ge (tgt := 98) dX11_errand_87 (by decide) (pc2 := 90) rfl (fun c13 => ?_) (fun c13 => ?_)
      · have hf := if_t c13 hf
        obtain ⟨x14, ex14, hf⟩ := ltb_s hf
        refine e_iinc dX11_errand_98 6 rfl (c9 := 1) (by decide) ex14.symm (by decide) (ls' := [(0, .ref 1), (1, .int v1), (2, .int v2), (3, .int x10), (4, .int v4), (5, .int v5), (6, .int x14)]) [1, 2, 3, 4, 5, 6, 0] rfl (pc2 := 101) rfl ?_
        refine e_goto (tgt := 30) dX11_errand_101 (by decide) ?_
        exact hk30 x10 v4 v5 x14 s hf
      · have hf := if_f c13 hf
        refine ev_sub [0, 1, 2, 3, 6, 7] rfl ?_
        exact t_X11_errand_j90 v1 v2 x10 v6 w0 s _ hk30 hf
def f_X11_errand_l30b (v1 : Int32) (v2 : Int32) (v3 : Int32) (v4 : Int32) (v5 : Int32) (v6 : Int32) (k30 : Int32 → Int32 → Int32 → Int32 → HS → Option (Int32 × HS)) (k104 : Int32 → Int32 → Int32 → HS → Option (Int32 × HS)) (s : HS) : Option (Int32 × HS) :=
  gd (okX4 (s.2.2.1)) ((if (s.1 (s.2.2.1) 14) ≤ v6 then k104 v3 v4 v5 s else (if ((v1 >>> (v6 &&& 31)) &&& (1 : Int32)) = 0 then f_X11_errand_j62 v1 v2 v3 v4 v5 v6 (-1) k30 s else bnd2 (f_X11_errandSecond v1 v6 s) fun y15 s16 => f_X11_errand_j62 v1 v2 v3 v4 v5 v6 y15 k30 s16)))
set_option maxRecDepth 20000 in
set_option maxHeartbeats 2000000 in
theorem t_X11_errand_l30b (v1 : Int32) (v2 : Int32) (v3 : Int32) (v4 : Int32) (v5 : Int32) (v6 : Int32) (s : HS) {x : Int32} {t : HS} (k30 : Int32 → Int32 → Int32 → Int32 → HS → Option (Int32 × HS)) (hk30 : ∀ (a3 : Int32) (a4 : Int32) (a5 : Int32) (a6 : Int32) (s : HS), k30 a3 a4 a5 a6 s = some (x, t) → Ev DDX11_errand miX11_errand NF (some (.int x)) NF (hp t) 30 NF [(0, .ref 1), (1, .int v1), (2, .int v2), (3, .int a3), (4, .int a4), (5, .int a5), (6, .int a6)] [] (hp s)) (k104 : Int32 → Int32 → Int32 → HS → Option (Int32 × HS)) (hk104 : ∀ (a3 : Int32) (a4 : Int32) (a5 : Int32) (s : HS), k104 a3 a4 a5 s = some (x, t) → Ev DDX11_errand miX11_errand NF (some (.int x)) NF (hp t) 104 NF [(2, .int v2), (3, .int a3), (4, .int a4), (5, .int a5)] [] (hp s)) (hf : f_X11_errand_l30b v1 v2 v3 v4 v5 v6 k30 k104 s = some (x, t)) : Ev DDX11_errand miX11_errand NF (some (.int x)) NF (hp t) 30 NF [(0, .ref 1), (1, .int v1), (2, .int v2), (3, .int v3), (4, .int v4), (5, .int v5), (6, .int v6)] [] (hp s) := by
  refine e_iload dX11_errand_30 6 rfl (pc2 := 32) rfl ?_
  refine e_aload_n dX11_errand_32 0 rfl rfl (pc2 := 33) rfl ?_
  obtain ⟨g5, hf⟩ := gd_some hf
  refine e_getR (r := s.2.2.1) fl_X11_61 dX11_errand_33 so_1 rfl (okX4_ne g5) (pc2 := 36) rfl ?_
  refine e_getI fl_X11_229 dX11_errand_36 (okX4_o g5) (by decide) (pc2 := 39) rfl ?_
  refine e_icmp_ge (tgt := 104) dX11_errand_39 (by decide) (pc2 := 42) rfl (fun c6 => ?_) (fun c6 => ?_)
  · have hf := if_t c6 hf
    refine ev_sub [2, 3, 4, 5] rfl ?_
    exact hk104 v3 v4 v5 s hf
  · have hf := if_f c6 hf
    refine e_iload_n dX11_errand_42 1 rfl rfl (pc2 := 43) rfl ?_
    refine e_iload dX11_errand_43 6 rfl (pc2 := 45) rfl ?_
    refine e_ishr dX11_errand_45 (pc2 := 46) rfl ?_
    refine e_iconst (x := 1) dX11_errand_46 (by decide) (pc2 := 47) rfl ?_
    refine e_iand dX11_errand_47 (pc2 := 48) rfl ?_
    refine e_if_eq (tgt := 61) dX11_errand_48 (by decide) (pc2 := 51) rfl (fun c7 => ?_) (fun c7 => ?_)
    · have hf := if_t c7 hf
      refine e_iconst (x := (-1)) dX11_errand_61 (by decide) (pc2 := 62) rfl ?_
      exact t_X11_errand_j62 v1 v2 v3 v4 v5 v6 (-1) s _ hk30 hf
    · have hf := if_f c7 hf
      refine e_aload_n dX11_errand_51 0 rfl rfl (pc2 := 52) rfl ?_
      refine e_iload_n dX11_errand_52 1 rfl rfl (pc2 := 53) rfl ?_
      refine e_iload dX11_errand_53 6 rfl (pc2 := 55) rfl ?_
      obtain ⟨y15, s16, hy15, hf⟩ := bnd2_s hf
      refine e_callVs (t_X11_errandSecond v1 v6 s hy15) dX11_errand_55 cv_X11_252 rfl so_1 rc_10 (by decide) (by first | exact Nat.le_of_ble_eq_true rfl | simp [rva_cat, vc_i, vc_r, vc_l, vc_n]) nn0 rfl (pc2 := 58) rfl ?_
      refine e_goto (tgt := 62) dX11_errand_58 (by decide) ?_
      exact t_X11_errand_j62 v1 v2 v3 v4 v5 v6 y15 s16 _ hk30 hf
def f_X11_errand_l30 (v1 : Int32) (v2 : Int32) (k104 : Int32 → Int32 → Int32 → HS → Option (Int32 × HS)) : Nat → Int32 → Int32 → Int32 → Int32 → HS → Option (Int32 × HS)
  | 0, _, _, _, _, _ => none
  | n + 1, v3, v4, v5, v6, s => f_X11_errand_l30b v1 v2 v3 v4 v5 v6 (f_X11_errand_l30 v1 v2 k104 n) k104 s
set_option maxRecDepth 20000 in
set_option maxHeartbeats 2000000 in
theorem t_X11_errand_l30 (v1 : Int32) (v2 : Int32) {x : Int32} {t : HS} (k104 : Int32 → Int32 → Int32 → HS → Option (Int32 × HS)) (hk104 : ∀ (a3 : Int32) (a4 : Int32) (a5 : Int32) (s : HS), k104 a3 a4 a5 s = some (x, t) → Ev DDX11_errand miX11_errand NF (some (.int x)) NF (hp t) 104 NF [(2, .int v2), (3, .int a3), (4, .int a4), (5, .int a5)] [] (hp s)) : ∀ (n : Nat) (v3 : Int32) (v4 : Int32) (v5 : Int32) (v6 : Int32) (s : HS), f_X11_errand_l30 v1 v2 k104 n v3 v4 v5 v6 s = some (x, t) → Ev DDX11_errand miX11_errand NF (some (.int x)) NF (hp t) 30 NF [(0, .ref 1), (1, .int v1), (2, .int v2), (3, .int v3), (4, .int v4), (5, .int v5), (6, .int v6)] [] (hp s) := by
  intro n
  induction n with
  | zero =>
    intro v3 v4 v5 v6 s hf
    have hf : none = some (x, t) := hf
    cases hf
  | succ n ih =>
    intro v3 v4 v5 v6 s hf
    exact t_X11_errand_l30b v1 v2 v3 v4 v5 v6  s _ ih _ hk104 hf
def f_X11_errand (v1 : Int32) (v2 : Int32) (s : HS) : Option (Int32 × HS) :=
  bnd (f_X11_isSome v1 s) fun y1 => (if y1 = 0 then some ((-1), s) else (if v2 < 0 then some ((-1), s) else (if v2 ≤ 2 then f_X11_errand_l30 v1 v2 (fun v17 v18 v19 s20 => (if v2 = 0 then some (v17, s20) else (if v2 = 1 then some (v18, s20) else some (v19, s20)))) FU 0 (-1) (-1) 0 s else some ((-1), s))))
set_option maxRecDepth 20000 in
set_option maxHeartbeats 2000000 in
theorem t_X11_errand (v1 : Int32) (v2 : Int32) (s : HS) {x : Int32} {t : HS} (hf : f_X11_errand  v1 v2 s = some (x, t)) : Mt DDX11_errand miX11_errand [.ref 1, .int v1, .int v2] NF (hp s) (some (.int x)) NF (hp t) := by
  refine Mt.of (by decide +kernel) (Nat.le_refl _) (Nat.le_of_ble_eq_true rfl) ?_
  show Ev DDX11_errand miX11_errand NF (some (.int x)) NF (hp t) 0 NF [(0, .ref 1), (1, .int v1), (2, .int v2)] [] (hp s)
  unfold f_X11_errand at hf
  refine e_aload_n dX11_errand_0 0 rfl rfl (pc2 := 1) rfl ?_
  refine e_iload_n dX11_errand_1 1 rfl rfl (pc2 := 2) rfl ?_
  obtain ⟨y1, hy1, hf⟩ := bnd_s hf
  refine e_callVs (t_X11_isSome v1 s hy1) dX11_errand_2 cv_X11_238 rfl so_1 rc_10 (by decide) (by first | exact Nat.le_of_ble_eq_true rfl | simp [rva_cat, vc_i, vc_r, vc_l, vc_n]) nn0 rfl (pc2 := 5) rfl ?_
  refine e_if_eq (tgt := 17) dX11_errand_5 (by decide) (pc2 := 8) rfl (fun c2 => ?_) (fun c2 => ?_)
  · have hf := if_t c2 hf
    refine e_iconst (x := (-1)) dX11_errand_17 (by decide) (pc2 := 18) rfl ?_
    cases hf
    exact e_iret rfl dX11_errand_18
  · have hf := if_f c2 hf
    refine e_iload_n dX11_errand_8 2 rfl rfl (pc2 := 9) rfl ?_
    refine e_if_lt (tgt := 17) dX11_errand_9 (by decide) (pc2 := 12) rfl (fun c3 => ?_) (fun c3 => ?_)
    · have hf := if_t c3 hf
      refine e_iconst (x := (-1)) dX11_errand_17 (by decide) (pc2 := 18) rfl ?_
      cases hf
      exact e_iret rfl dX11_errand_18
    · have hf := if_f c3 hf
      refine e_iload_n dX11_errand_12 2 rfl rfl (pc2 := 13) rfl ?_
      refine e_iconst (x := 2) dX11_errand_13 (by decide) (pc2 := 14) rfl ?_
      refine e_icmp_le (tgt := 19) dX11_errand_14 (by decide) (pc2 := 17) rfl (fun c4 => ?_) (fun c4 => ?_)
      · have hf := if_t c4 hf
        refine e_iconst (x := 0) dX11_errand_19 (by decide) (pc2 := 20) rfl ?_
        refine e_istore_n dX11_errand_20 rfl (by decide) rfl (ls' := [(0, .ref 1), (1, .int v1), (2, .int v2), (3, .int 0)]) [1, 2, 3, 0] rfl (pc2 := 21) rfl ?_
        refine e_iconst (x := (-1)) dX11_errand_21 (by decide) (pc2 := 22) rfl ?_
        refine e_istore dX11_errand_22 (by decide) rfl (ls' := [(0, .ref 1), (1, .int v1), (2, .int v2), (3, .int 0), (4, .int (-1))]) [1, 2, 3, 4, 0] rfl (pc2 := 24) rfl ?_
        refine e_iconst (x := (-1)) dX11_errand_24 (by decide) (pc2 := 25) rfl ?_
        refine e_istore dX11_errand_25 (by decide) rfl (ls' := [(0, .ref 1), (1, .int v1), (2, .int v2), (3, .int 0), (4, .int (-1)), (5, .int (-1))]) [1, 2, 3, 4, 5, 0] rfl (pc2 := 27) rfl ?_
        refine e_iconst (x := 0) dX11_errand_27 (by decide) (pc2 := 28) rfl ?_
        refine e_istore dX11_errand_28 (by decide) rfl (ls' := [(0, .ref 1), (1, .int v1), (2, .int v2), (3, .int 0), (4, .int (-1)), (5, .int (-1)), (6, .int 0)]) [1, 2, 3, 4, 5, 6, 0] rfl (pc2 := 30) rfl ?_
        refine t_X11_errand_l30 v1 v2 _ ?_ FU 0 (-1) (-1) 0 s hf
        · intro v17 v18 v19 s20 hf
          refine e_iload_n dX11_errand_104 0 rfl rfl (pc2 := 105) rfl ?_
          refine e_if_ne (tgt := 112) dX11_errand_105 (by decide) (pc2 := 108) rfl (fun c21 => ?_) (fun c21 => ?_)
          · have hf := if_f c21 hf
            refine e_iload_n dX11_errand_112 0 rfl rfl (pc2 := 113) rfl ?_
            refine e_iconst (x := 1) dX11_errand_113 (by decide) (pc2 := 114) rfl ?_
            refine e_icmp_ne (tgt := 122) dX11_errand_114 (by decide) (pc2 := 117) rfl (fun c22 => ?_) (fun c22 => ?_)
            · have hf := if_f c22 hf
              refine e_iload dX11_errand_122 3 rfl (pc2 := 124) rfl ?_
              cases hf
              exact e_iret rfl dX11_errand_124
            · have hf := if_t c22 hf
              refine e_iload dX11_errand_117 2 rfl (pc2 := 119) rfl ?_
              refine e_goto (tgt := 124) dX11_errand_119 (by decide) ?_
              cases hf
              exact e_iret rfl dX11_errand_124
          · have hf := if_t c21 hf
            refine e_iload_n dX11_errand_108 1 rfl rfl (pc2 := 109) rfl ?_
            refine e_goto (tgt := 124) dX11_errand_109 (by decide) ?_
            cases hf
            exact e_iret rfl dX11_errand_124
      · have hf := if_f c4 hf
        refine e_iconst (x := (-1)) dX11_errand_17 (by decide) (pc2 := 18) rfl ?_
        cases hf
        exact e_iret rfl dX11_errand_18
abbrev DDX11_table : Nat := 6
def f_X11_table (v1 : Int32) (v2 : Int32) (s : HS) : Option (Int32 × HS) :=
  (if v1 < 1 then some ((-1), s) else (if 2 < v1 then some ((-1), s) else (if v2 < 0 then some ((-1), s) else (if v2 ≤ 2 then bnd (f_X7_copyHand 28 64 s) fun s6 => ltb (sI s6 28 3 v1) fun s7 => gd (okX4 (s7.2.2.1)) (bnd (f_X6_layOut (s7.2.2.1) 28 s7) fun s10 => ltb (sI s10 73 2 v2) fun s11 => bnd (f_X6_play s11) fun s13 => bnd (f_X6_drunkInAll s13) fun y14 => some (y14, s13)) else some ((-1), s)))))
set_option maxRecDepth 20000 in
set_option maxHeartbeats 2000000 in
theorem t_X11_table (v1 : Int32) (v2 : Int32) (s : HS) {x : Int32} {t : HS} (hf : f_X11_table  v1 v2 s = some (x, t)) : Mt DDX11_table miX11_table [.ref 1, .int v1, .int v2] NF (hp s) (some (.int x)) NF (hp t) := by
  refine Mt.of (by decide +kernel) (Nat.le_refl _) (Nat.le_of_ble_eq_true rfl) ?_
  show Ev DDX11_table miX11_table NF (some (.int x)) NF (hp t) 0 NF [(0, .ref 1), (1, .int v1), (2, .int v2)] [] (hp s)
  unfold f_X11_table at hf
  refine e_iload_n dX11_table_0 1 rfl rfl (pc2 := 1) rfl ?_
  refine e_iconst (x := 1) dX11_table_1 (by decide) (pc2 := 2) rfl ?_
  refine e_icmp_lt (tgt := 19) dX11_table_2 (by decide) (pc2 := 5) rfl (fun c1 => ?_) (fun c1 => ?_)
  · have hf := if_t c1 hf
    refine e_iconst (x := (-1)) dX11_table_19 (by decide) (pc2 := 20) rfl ?_
    cases hf
    exact e_iret rfl dX11_table_20
  · have hf := if_f c1 hf
    refine e_iload_n dX11_table_5 1 rfl rfl (pc2 := 6) rfl ?_
    refine e_iconst (x := 2) dX11_table_6 (by decide) (pc2 := 7) rfl ?_
    refine e_icmp_gt (tgt := 19) dX11_table_7 (by decide) (pc2 := 10) rfl (fun c2 => ?_) (fun c2 => ?_)
    · have hf := if_t c2 hf
      refine e_iconst (x := (-1)) dX11_table_19 (by decide) (pc2 := 20) rfl ?_
      cases hf
      exact e_iret rfl dX11_table_20
    · have hf := if_f c2 hf
      refine e_iload_n dX11_table_10 2 rfl rfl (pc2 := 11) rfl ?_
      refine e_if_lt (tgt := 19) dX11_table_11 (by decide) (pc2 := 14) rfl (fun c3 => ?_) (fun c3 => ?_)
      · have hf := if_t c3 hf
        refine e_iconst (x := (-1)) dX11_table_19 (by decide) (pc2 := 20) rfl ?_
        cases hf
        exact e_iret rfl dX11_table_20
      · have hf := if_f c3 hf
        refine e_iload_n dX11_table_14 2 rfl rfl (pc2 := 15) rfl ?_
        refine e_iconst (x := 2) dX11_table_15 (by decide) (pc2 := 16) rfl ?_
        refine e_icmp_le (tgt := 21) dX11_table_16 (by decide) (pc2 := 19) rfl (fun c4 => ?_) (fun c4 => ?_)
        · have hf := if_t c4 hf
          refine e_aload_n dX11_table_21 0 rfl rfl (pc2 := 22) rfl ?_
          refine e_getR (r := 28) fl_X11_19 dX11_table_22 so_1 (rs_1_6 s.2.2) (by decide) (pc2 := 25) rfl ?_
          refine e_aload_n dX11_table_25 0 rfl rfl (pc2 := 26) rfl ?_
          refine e_getR (r := 64) fl_X11_64 dX11_table_26 so_1 (rs_1_5 s.2.2) (by decide) (pc2 := 29) rfl ?_
          obtain ⟨s6, hy5, hf⟩ := bnd_s hf
          refine e_callVn (t_X7_copyHand 28 (show okX7 28 = true from rfl) 64 (show okX7 64 = true from rfl) s hy5) dX11_table_29 cv_X11_225 rfl (okX7_o (show okX7 28 = true from rfl)) rc_7 (by decide) (by first | exact Nat.le_of_ble_eq_true rfl | simp [rva_cat, vc_i, vc_r, vc_l, vc_n]) nn0 rfl (pc2 := 32) rfl ?_
          refine e_aload_n dX11_table_32 0 rfl rfl (pc2 := 33) rfl ?_
          refine e_getR (r := 28) fl_X11_19 dX11_table_33 so_1 (rs_1_6 s6.2.2) (by decide) (pc2 := 36) rfl ?_
          refine e_iload_n dX11_table_36 1 rfl rfl (pc2 := 37) rfl ?_
          obtain ⟨s7, es7, hf⟩ := ltb_s hf
          refine e_putI fl_X11_255 dX11_table_37 (okX7_o (show okX7 28 = true from rfl)) fn_7_3 (h2 := hp s7) (by rw [es7]; rfl) (pc2 := 40) rfl ?_
          refine e_aload_n dX11_table_40 0 rfl rfl (pc2 := 41) rfl ?_
          refine e_getR (r := 73) fl_X11_72 dX11_table_41 so_1 (rs_1_8 s7.2.2) (by decide) (pc2 := 44) rfl ?_
          refine e_aload_n dX11_table_44 0 rfl rfl (pc2 := 45) rfl ?_
          obtain ⟨g8, hf⟩ := gd_some hf
          refine e_getR (r := s7.2.2.1) fl_X11_61 dX11_table_45 so_1 rfl (okX4_ne g8) (pc2 := 48) rfl ?_
          refine e_aload_n dX11_table_48 0 rfl rfl (pc2 := 49) rfl ?_
          refine e_getR (r := 28) fl_X11_19 dX11_table_49 so_1 (rs_1_6 s7.2.2) (by decide) (pc2 := 52) rfl ?_
          obtain ⟨s10, hy9, hf⟩ := bnd_s hf
          refine e_callVn (t_X6_layOut (s7.2.2.1) g8 28 (show okX7 28 = true from rfl) s7 hy9) dX11_table_52 cv_X11_258 rfl so_73 rc_6 (by decide) (by first | exact Nat.le_of_ble_eq_true rfl | simp [rva_cat, vc_i, vc_r, vc_l, vc_n]) nn0 rfl (pc2 := 55) rfl ?_
          refine e_aload_n dX11_table_55 0 rfl rfl (pc2 := 56) rfl ?_
          refine e_getR (r := 73) fl_X11_72 dX11_table_56 so_1 (rs_1_8 s10.2.2) (by decide) (pc2 := 59) rfl ?_
          refine e_iload_n dX11_table_59 2 rfl rfl (pc2 := 60) rfl ?_
          obtain ⟨s11, es11, hf⟩ := ltb_s hf
          refine e_putI fl_X11_261 dX11_table_60 so_73 fn_6_2 (h2 := hp s11) (by rw [es11]; rfl) (pc2 := 63) rfl ?_
          refine e_aload_n dX11_table_63 0 rfl rfl (pc2 := 64) rfl ?_
          refine e_getR (r := 73) fl_X11_72 dX11_table_64 so_1 (rs_1_8 s11.2.2) (by decide) (pc2 := 67) rfl ?_
          obtain ⟨s13, hy12, hf⟩ := bnd_s hf
          refine e_callVn (t_X6_play  s11 hy12) dX11_table_67 cv_X11_264 rfl so_73 rc_6 (by decide) (by first | exact Nat.le_of_ble_eq_true rfl | simp [rva_cat, vc_i, vc_r, vc_l, vc_n]) nn0 rfl (pc2 := 70) rfl ?_
          refine e_aload_n dX11_table_70 0 rfl rfl (pc2 := 71) rfl ?_
          refine e_getR (r := 73) fl_X11_72 dX11_table_71 so_1 (rs_1_8 s13.2.2) (by decide) (pc2 := 74) rfl ?_
          obtain ⟨y14, hy14, hf⟩ := bnd_s hf
          refine e_callVs (t_X6_drunkInAll  s13 hy14) dX11_table_74 cv_X11_191 rfl so_73 rc_6 (by decide) (by first | exact Nat.le_of_ble_eq_true rfl | simp [rva_cat, vc_i, vc_r, vc_l, vc_n]) nn0 rfl (pc2 := 77) rfl ?_
          cases hf
          exact e_iret rfl dX11_table_77
        · have hf := if_f c4 hf
          refine e_iconst (x := (-1)) dX11_table_19 (by decide) (pc2 := 20) rfl ?_
          cases hf
          exact e_iret rfl dX11_table_20
abbrev DDX11_stand : Nat := 7
def f_X11_stand_l17b (v1 : Int32) (v2 : Int32) (v3 : Int32) (k17 : Int32 → Int32 → Int32 → HS → Option (Int32 × HS)) (s : HS) : Option (Int32 × HS) :=
  (if 200 < v3 then some (v1, s) else ltb (sI s 28 2 v3) fun s4 => bnd (f_X11_playTrial s4) fun s6 => bnd (f_X6_drunkInAll s6) fun y7 => (if y7 ≤ v2 then ltb (v3 + 10) fun x9 => k17 v1 v2 x9 s6 else bnd (f_X6_drunkInAll s6) fun y10 => ltb (v3 + 10) fun x11 => k17 v3 y10 x11 s6))
set_option maxRecDepth 20000 in
set_option maxHeartbeats 2000000 in
theorem t_X11_stand_l17b (v1 : Int32) (v2 : Int32) (v3 : Int32) (s : HS) {x : Int32} {t : HS} (k17 : Int32 → Int32 → Int32 → HS → Option (Int32 × HS)) (hk17 : ∀ (a1 : Int32) (a2 : Int32) (a3 : Int32) (s : HS), k17 a1 a2 a3 s = some (x, t) → Ev DDX11_stand miX11_stand NF (some (.int x)) NF (hp t) 17 NF [(0, .ref 1), (1, .int a1), (2, .int a2), (3, .int a3)] [] (hp s)) (hf : f_X11_stand_l17b v1 v2 v3 k17 s = some (x, t)) : Ev DDX11_stand miX11_stand NF (some (.int x)) NF (hp t) 17 NF [(0, .ref 1), (1, .int v1), (2, .int v2), (3, .int v3)] [] (hp s) := by
  refine e_iload_n dX11_stand_17 3 rfl rfl (pc2 := 18) rfl ?_
  refine e_sipush (x := 200) dX11_stand_18 (by decide) (pc2 := 21) rfl ?_
  refine e_icmp_gt (tgt := 63) dX11_stand_21 (by decide) (pc2 := 24) rfl (fun c3 => ?_) (fun c3 => ?_)
  · have hf := if_t c3 hf
    refine e_iload_n dX11_stand_63 1 rfl rfl (pc2 := 64) rfl ?_
    cases hf
    exact e_iret rfl dX11_stand_64
  · have hf := if_f c3 hf
    refine e_aload_n dX11_stand_24 0 rfl rfl (pc2 := 25) rfl ?_
    refine e_getR (r := 28) fl_X11_19 dX11_stand_25 so_1 (rs_1_6 s.2.2) (by decide) (pc2 := 28) rfl ?_
    refine e_iload_n dX11_stand_28 3 rfl rfl (pc2 := 29) rfl ?_
    obtain ⟨s4, es4, hf⟩ := ltb_s hf
    refine e_putI fl_X11_161 dX11_stand_29 (okX7_o (show okX7 28 = true from rfl)) fn_7_2 (h2 := hp s4) (by rw [es4]; rfl) (pc2 := 32) rfl ?_
    refine e_aload_n dX11_stand_32 0 rfl rfl (pc2 := 33) rfl ?_
    obtain ⟨s6, hy5, hf⟩ := bnd_s hf
    refine e_callVn (t_X11_playTrial  s4 hy5) dX11_stand_33 cv_X11_184 rfl so_1 rc_10 (by decide) (by first | exact Nat.le_of_ble_eq_true rfl | simp [rva_cat, vc_i, vc_r, vc_l, vc_n]) nn0 rfl (pc2 := 36) rfl ?_
    refine e_aload_n dX11_stand_36 0 rfl rfl (pc2 := 37) rfl ?_
    refine e_getR (r := 73) fl_X11_72 dX11_stand_37 so_1 (rs_1_8 s6.2.2) (by decide) (pc2 := 40) rfl ?_
    obtain ⟨y7, hy7, hf⟩ := bnd_s hf
    refine e_callVs (t_X6_drunkInAll  s6 hy7) dX11_stand_40 cv_X11_191 rfl so_73 rc_6 (by decide) (by first | exact Nat.le_of_ble_eq_true rfl | simp [rva_cat, vc_i, vc_r, vc_l, vc_n]) nn0 rfl (pc2 := 43) rfl ?_
    refine e_iload_n dX11_stand_43 2 rfl rfl (pc2 := 44) rfl ?_
    refine e_icmp_le (tgt := 57) dX11_stand_44 (by decide) (pc2 := 47) rfl (fun c8 => ?_) (fun c8 => ?_)
    · have hf := if_t c8 hf
      obtain ⟨x9, ex9, hf⟩ := ltb_s hf
      refine e_iinc dX11_stand_57 3 rfl (c9 := 10) (by decide) ex9.symm (by decide) (ls' := [(0, .ref 1), (1, .int v1), (2, .int v2), (3, .int x9)]) [1, 2, 3, 0] rfl (pc2 := 60) rfl ?_
      refine e_goto (tgt := 17) dX11_stand_60 (by decide) ?_
      exact hk17 v1 v2 x9 s6 hf
    · have hf := if_f c8 hf
      refine e_aload_n dX11_stand_47 0 rfl rfl (pc2 := 48) rfl ?_
      refine e_getR (r := 73) fl_X11_72 dX11_stand_48 so_1 (rs_1_8 s6.2.2) (by decide) (pc2 := 51) rfl ?_
      obtain ⟨y10, hy10, hf⟩ := bnd_s hf
      refine e_callVs (t_X6_drunkInAll  s6 hy10) dX11_stand_51 cv_X11_191 rfl so_73 rc_6 (by decide) (by first | exact Nat.le_of_ble_eq_true rfl | simp [rva_cat, vc_i, vc_r, vc_l, vc_n]) nn0 rfl (pc2 := 54) rfl ?_
      refine e_istore_n dX11_stand_54 rfl (by decide) rfl (ls' := [(0, .ref 1), (2, .int y10), (3, .int v3)]) [1, 0, 3] rfl (pc2 := 55) rfl ?_
      refine e_iload_n dX11_stand_55 2 rfl rfl (pc2 := 56) rfl ?_
      refine e_istore_n dX11_stand_56 rfl (by decide) rfl (ls' := [(0, .ref 1), (1, .int v3), (2, .int y10), (3, .int v3)]) [1, 0, 2, 3] rfl (pc2 := 57) rfl ?_
      obtain ⟨x11, ex11, hf⟩ := ltb_s hf
      refine e_iinc dX11_stand_57 3 rfl (c9 := 10) (by decide) ex11.symm (by decide) (ls' := [(0, .ref 1), (1, .int v3), (2, .int y10), (3, .int x11)]) [1, 2, 3, 0] rfl (pc2 := 60) rfl ?_
      refine e_goto (tgt := 17) dX11_stand_60 (by decide) ?_
      exact hk17 v3 y10 x11 s6 hf
def f_X11_stand_l17  : Nat → Int32 → Int32 → Int32 → HS → Option (Int32 × HS)
  | 0, _, _, _, _ => none
  | n + 1, v1, v2, v3, s => f_X11_stand_l17b v1 v2 v3 (f_X11_stand_l17  n)  s
set_option maxRecDepth 20000 in
set_option maxHeartbeats 2000000 in
theorem t_X11_stand_l17  {x : Int32} {t : HS}  : ∀ (n : Nat) (v1 : Int32) (v2 : Int32) (v3 : Int32) (s : HS), f_X11_stand_l17  n v1 v2 v3 s = some (x, t) → Ev DDX11_stand miX11_stand NF (some (.int x)) NF (hp t) 17 NF [(0, .ref 1), (1, .int v1), (2, .int v2), (3, .int v3)] [] (hp s) := by
  intro n
  induction n with
  | zero =>
    intro v1 v2 v3 s hf
    have hf : none = some (x, t) := hf
    cases hf
  | succ n ih =>
    intro v1 v2 v3 s hf
    exact t_X11_stand_l17b v1 v2 v3  s _ ih  hf
def f_X11_stand  (s : HS) : Option (Int32 × HS) :=
  bnd (f_X7_copyHand 28 64 s) fun s2 => f_X11_stand_l17 FU 0 (-1) 0 s2
set_option maxRecDepth 20000 in
set_option maxHeartbeats 2000000 in
theorem t_X11_stand  (s : HS) {x : Int32} {t : HS} (hf : f_X11_stand  s = some (x, t)) : Mt DDX11_stand miX11_stand [.ref 1] NF (hp s) (some (.int x)) NF (hp t) := by
  refine Mt.of (by decide +kernel) (Nat.le_refl _) (Nat.le_of_ble_eq_true rfl) ?_
  show Ev DDX11_stand miX11_stand NF (some (.int x)) NF (hp t) 0 NF [(0, .ref 1)] [] (hp s)
  unfold f_X11_stand at hf
  refine e_aload_n dX11_stand_0 0 rfl rfl (pc2 := 1) rfl ?_
  refine e_getR (r := 28) fl_X11_19 dX11_stand_1 so_1 (rs_1_6 s.2.2) (by decide) (pc2 := 4) rfl ?_
  refine e_aload_n dX11_stand_4 0 rfl rfl (pc2 := 5) rfl ?_
  refine e_getR (r := 64) fl_X11_64 dX11_stand_5 so_1 (rs_1_5 s.2.2) (by decide) (pc2 := 8) rfl ?_
  obtain ⟨s2, hy1, hf⟩ := bnd_s hf
  refine e_callVn (t_X7_copyHand 28 (show okX7 28 = true from rfl) 64 (show okX7 64 = true from rfl) s hy1) dX11_stand_8 cv_X11_225 rfl (okX7_o (show okX7 28 = true from rfl)) rc_7 (by decide) (by first | exact Nat.le_of_ble_eq_true rfl | simp [rva_cat, vc_i, vc_r, vc_l, vc_n]) nn0 rfl (pc2 := 11) rfl ?_
  refine e_iconst (x := 0) dX11_stand_11 (by decide) (pc2 := 12) rfl ?_
  refine e_istore_n dX11_stand_12 rfl (by decide) rfl (ls' := [(0, .ref 1), (1, .int 0)]) [1, 0] rfl (pc2 := 13) rfl ?_
  refine e_iconst (x := (-1)) dX11_stand_13 (by decide) (pc2 := 14) rfl ?_
  refine e_istore_n dX11_stand_14 rfl (by decide) rfl (ls' := [(0, .ref 1), (1, .int 0), (2, .int (-1))]) [1, 2, 0] rfl (pc2 := 15) rfl ?_
  refine e_iconst (x := 0) dX11_stand_15 (by decide) (pc2 := 16) rfl ?_
  refine e_istore_n dX11_stand_16 rfl (by decide) rfl (ls' := [(0, .ref 1), (1, .int 0), (2, .int (-1)), (3, .int 0)]) [1, 2, 3, 0] rfl (pc2 := 17) rfl ?_
  refine t_X11_stand_l17 FU 0 (-1) 0 s2 hf
