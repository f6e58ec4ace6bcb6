abbrev DDX11_ring : Nat := 7
def f_X11_ring_l17b (v1 : Int32) (v2 : Int32) (v3 : Int32) (k17 : Int32 → Int32 → Int32 → HS → Option (Int32 × HS)) (s : HS) : Option (Int32 × HS) :=
  gd (okX4 (s.2.2.1)) ((if (s.1 (s.2.2.1) 0) < v3 then some (v1, s) else ltb (sI s 28 1 v3) fun s5 => bnd (f_X11_playTrial s5) fun s7 => (if (s7.1 73 15) = 0 then bnd (f_X6_drunkInAll s7) fun y10 => (if y10 ≤ v2 then ltb (v3 + 1) fun x12 => k17 v1 v2 x12 s7 else bnd (f_X6_drunkInAll s7) fun y13 => ltb (v3 + 1) fun x14 => k17 v3 y13 x14 s7) else ltb (v3 + 1) fun x9 => k17 v1 v2 x9 s7)))
set_option maxRecDepth 20000 in
set_option maxHeartbeats 2000000 in
theorem t_X11_ring_l17b (v1 : Int32) (v2 : Int32) (v3 : Int32) (s : HS) {x : Int32} {t : HS} (k17 : Int32 → Int32 → Int32 → HS → Option (Int32 × HS)) (hk17 : ∀ (a1 : Int32) (a2 : Int32) (a3 : Int32) (s : HS), k17 a1 a2 a3 s = some (x, t) → Ev DDX11_ring miX11_ring NF (some (.int x)) NF (hp t) 17 NF [(0, .ref 1), (1, .int a1), (2, .int a2), (3, .int a3)] [] (hp s)) (hf : f_X11_ring_l17b v1 v2 v3 k17 s = some (x, t)) : Ev DDX11_ring miX11_ring NF (some (.int x)) NF (hp t) 17 NF [(0, .ref 1), (1, .int v1), (2, .int v2), (3, .int v3)] [] (hp s) := by
  refine e_iload_n dX11_ring_17 3 rfl rfl (pc2 := 18) rfl ?_
  refine e_aload_n dX11_ring_18 0 rfl rfl (pc2 := 19) rfl ?_
  obtain ⟨g3, hf⟩ := gd_some hf
  refine e_getR (r := s.2.2.1) fl_X11_61 dX11_ring_19 so_1 rfl (okX4_ne g3) (pc2 := 22) rfl ?_
  refine e_getI fl_X11_267 dX11_ring_22 (okX4_o g3) (by decide) (pc2 := 25) rfl ?_
  refine e_icmp_gt (tgt := 77) dX11_ring_25 (by decide) (pc2 := 28) rfl (fun c4 => ?_) (fun c4 => ?_)
  · have hf := if_t c4 hf
    refine e_iload_n dX11_ring_77 1 rfl rfl (pc2 := 78) rfl ?_
    cases hf
    exact e_iret rfl dX11_ring_78
  · have hf := if_f c4 hf
    refine e_aload_n dX11_ring_28 0 rfl rfl (pc2 := 29) rfl ?_
    refine e_getR (r := 28) fl_X11_19 dX11_ring_29 so_1 (rs_1_6 s.2.2) (by decide) (pc2 := 32) rfl ?_
    refine e_iload_n dX11_ring_32 3 rfl rfl (pc2 := 33) rfl ?_
    obtain ⟨s5, es5, hf⟩ := ltb_s hf
    refine e_putI fl_X11_168 dX11_ring_33 (okX7_o (show okX7 28 = true from rfl)) fn_7_1 (h2 := hp s5) (by rw [es5]; rfl) (pc2 := 36) rfl ?_
    refine e_aload_n dX11_ring_36 0 rfl rfl (pc2 := 37) rfl ?_
    obtain ⟨s7, hy6, hf⟩ := bnd_s hf
    refine e_callVn (t_X11_playTrial  s5 hy6) dX11_ring_37 cv_X11_184 rfl so_1 rc_10 (by decide) (by first | exact Nat.le_of_ble_eq_true rfl | simp [rva_cat, vc_i, vc_r, vc_l, vc_n]) nn0 rfl (pc2 := 40) rfl ?_
    refine e_aload_n dX11_ring_40 0 rfl rfl (pc2 := 41) rfl ?_
    refine e_getR (r := 73) fl_X11_72 dX11_ring_41 so_1 (rs_1_8 s7.2.2) (by decide) (pc2 := 44) rfl ?_
    refine e_getI fl_X11_209 dX11_ring_44 so_73 (by decide) (pc2 := 47) rfl ?_
    refine e_if_ne (tgt := 71) dX11_ring_47 (by decide) (pc2 := 50) rfl (fun c8 => ?_) (fun c8 => ?_)
    · have hf := if_f c8 hf
      obtain ⟨x9, ex9, hf⟩ := ltb_s hf
      refine e_iinc dX11_ring_71 3 rfl (c9 := 1) (by decide) ex9.symm (by decide) (ls' := [(0, .ref 1), (1, .int v1), (2, .int v2), (3, .int x9)]) [1, 2, 3, 0] rfl (pc2 := 74) rfl ?_
      refine e_goto (tgt := 17) dX11_ring_74 (by decide) ?_
      exact hk17 v1 v2 x9 s7 hf
    · have hf := if_t c8 hf
      refine e_aload_n dX11_ring_50 0 rfl rfl (pc2 := 51) rfl ?_
      refine e_getR (r := 73) fl_X11_72 dX11_ring_51 so_1 (rs_1_8 s7.2.2) (by decide) (pc2 := 54) rfl ?_
      obtain ⟨y10, hy10, hf⟩ := bnd_s hf
      refine e_callVs (t_X6_drunkInAll  s7 hy10) dX11_ring_54 cv_X11_191 rfl so_73 rc_6 (by decide) (by first | exact Nat.le_of_ble_eq_true rfl | simp [rva_cat, vc_i, vc_r, vc_l, vc_n]) nn0 rfl (pc2 := 57) rfl ?_
      refine e_iload_n dX11_ring_57 2 rfl rfl (pc2 := 58) rfl ?_
      refine e_icmp_le (tgt := 71) dX11_ring_58 (by decide) (pc2 := 61) rfl (fun c11 => ?_) (fun c11 => ?_)
      · have hf := if_t c11 hf
        obtain ⟨x12, ex12, hf⟩ := ltb_s hf
        refine e_iinc dX11_ring_71 3 rfl (c9 := 1) (by decide) ex12.symm (by decide) (ls' := [(0, .ref 1), (1, .int v1), (2, .int v2), (3, .int x12)]) [1, 2, 3, 0] rfl (pc2 := 74) rfl ?_
        refine e_goto (tgt := 17) dX11_ring_74 (by decide) ?_
        exact hk17 v1 v2 x12 s7 hf
      · have hf := if_f c11 hf
        refine e_aload_n dX11_ring_61 0 rfl rfl (pc2 := 62) rfl ?_
        refine e_getR (r := 73) fl_X11_72 dX11_ring_62 so_1 (rs_1_8 s7.2.2) (by decide) (pc2 := 65) rfl ?_
        obtain ⟨y13, hy13, hf⟩ := bnd_s hf
        refine e_callVs (t_X6_drunkInAll  s7 hy13) dX11_ring_65 cv_X11_191 rfl so_73 rc_6 (by decide) (by first | exact Nat.le_of_ble_eq_true rfl | simp [rva_cat, vc_i, vc_r, vc_l, vc_n]) nn0 rfl (pc2 := 68) rfl ?_
        refine e_istore_n dX11_ring_68 rfl (by decide) rfl (ls' := [(0, .ref 1), (2, .int y13), (3, .int v3)]) [1, 0, 3] rfl (pc2 := 69) rfl ?_
        refine e_iload_n dX11_ring_69 2 rfl rfl (pc2 := 70) rfl ?_
        refine e_istore_n dX11_ring_70 rfl (by decide) rfl (ls' := [(0, .ref 1), (1, .int v3), (2, .int y13), (3, .int v3)]) [1, 0, 2, 3] rfl (pc2 := 71) rfl ?_
        obtain ⟨x14, ex14, hf⟩ := ltb_s hf
        refine e_iinc dX11_ring_71 3 rfl (c9 := 1) (by decide) ex14.symm (by decide) (ls' := [(0, .ref 1), (1, .int v3), (2, .int y13), (3, .int x14)]) [1, 2, 3, 0] rfl (pc2 := 74) rfl ?_
        refine e_goto (tgt := 17) dX11_ring_74 (by decide) ?_
        exact hk17 v3 y13 x14 s7 hf
def f_X11_ring_l17  : Nat → Int32 → Int32 → Int32 → HS → Option (Int32 × HS)
  | 0, _, _, _, _ => none
  | n + 1, v1, v2, v3, s => f_X11_ring_l17b v1 v2 v3 (f_X11_ring_l17  n)  s
set_option maxRecDepth 20000 in
set_option maxHeartbeats 2000000 in
theorem t_X11_ring_l17  {x : Int32} {t : HS}  : ∀ (n : Nat) (v1 : Int32) (v2 : Int32) (v3 : Int32) (s : HS), f_X11_ring_l17  n v1 v2 v3 s = some (x, t) → Ev DDX11_ring miX11_ring NF (some (.int x)) NF (hp t) 17 NF [(0, .ref 1), (1, .int v1), (2, .int v2), (3, .int v3)] [] (hp s) := by
  intro n
  induction n with
  | zero =>
    intro v1 v2 v3 s hf
    have hf : none = some (x, t) := hf
    cases hf
  | succ n ih =>
    intro v1 v2 v3 s hf
    exact t_X11_ring_l17b v1 v2 v3  s _ ih  hf
def f_X11_ring  (s : HS) : Option (Int32 × HS) :=
  bnd (f_X7_copyHand 28 64 s) fun s2 => f_X11_ring_l17 FU (-1) (-1) 1 s2
set_option maxRecDepth 20000 in
set_option maxHeartbeats 2000000 in
theorem t_X11_ring  (s : HS) {x : Int32} {t : HS} (hf : f_X11_ring  s = some (x, t)) : Mt DDX11_ring miX11_ring [.ref 1] NF (hp s) (some (.int x)) NF (hp t) := by
  refine Mt.of (by decide +kernel) (Nat.le_refl _) (Nat.le_of_ble_eq_true rfl) ?_
  show Ev DDX11_ring miX11_ring NF (some (.int x)) NF (hp t) 0 NF [(0, .ref 1)] [] (hp s)
  unfold f_X11_ring at hf
  refine e_aload_n dX11_ring_0 0 rfl rfl (pc2 := 1) rfl ?_
  refine e_getR (r := 28) fl_X11_19 dX11_ring_1 so_1 (rs_1_6 s.2.2) (by decide) (pc2 := 4) rfl ?_
  refine e_aload_n dX11_ring_4 0 rfl rfl (pc2 := 5) rfl ?_
  refine e_getR (r := 64) fl_X11_64 dX11_ring_5 so_1 (rs_1_5 s.2.2) (by decide) (pc2 := 8) rfl ?_
  obtain ⟨s2, hy1, hf⟩ := bnd_s hf
  refine e_callVn (t_X7_copyHand 28 (show okX7 28 = true from rfl) 64 (show okX7 64 = true from rfl) s hy1) dX11_ring_8 cv_X11_225 rfl (okX7_o (show okX7 28 = true from rfl)) rc_7 (by decide) (by first | exact Nat.le_of_ble_eq_true rfl | simp [rva_cat, vc_i, vc_r, vc_l, vc_n]) nn0 rfl (pc2 := 11) rfl ?_
  refine e_iconst (x := (-1)) dX11_ring_11 (by decide) (pc2 := 12) rfl ?_
  refine e_istore_n dX11_ring_12 rfl (by decide) rfl (ls' := [(0, .ref 1), (1, .int (-1))]) [1, 0] rfl (pc2 := 13) rfl ?_
  refine e_iconst (x := (-1)) dX11_ring_13 (by decide) (pc2 := 14) rfl ?_
  refine e_istore_n dX11_ring_14 rfl (by decide) rfl (ls' := [(0, .ref 1), (1, .int (-1)), (2, .int (-1))]) [1, 2, 0] rfl (pc2 := 15) rfl ?_
  refine e_iconst (x := 1) dX11_ring_15 (by decide) (pc2 := 16) rfl ?_
  refine e_istore_n dX11_ring_16 rfl (by decide) rfl (ls' := [(0, .ref 1), (1, .int (-1)), (2, .int (-1)), (3, .int 1)]) [1, 2, 3, 0] rfl (pc2 := 17) rfl ?_
  refine t_X11_ring_l17 FU (-1) (-1) 1 s2 hf
abbrev DDX11_isPoured : Nat := 2
def f_X11_isPoured (v1 : Int32) (s : HS) : Option Int32 :=
  bnd (f_X11_isThing v1 s) fun y1 => (if y1 = 0 then some 0 else gd (okX4 (s.2.2.1)) (gd (inb v1 5) ((if (s.1 (Rf (Rf (s.2.2.1) 13) v1.toNatClampNeg) 1) = 2 then some 0 else some 1))))
set_option maxRecDepth 20000 in
set_option maxHeartbeats 2000000 in
theorem t_X11_isPoured (v1 : Int32) (s : HS) {x : Int32} (hf : f_X11_isPoured  v1 s = some x) : Mt DDX11_isPoured miX11_isPoured [.ref 1, .int v1] NF (hp s) (some (.int x)) NF (hp s) := by
  refine Mt.of (by decide +kernel) (Nat.le_refl _) (Nat.le_of_ble_eq_true rfl) ?_
  show Ev DDX11_isPoured miX11_isPoured NF (some (.int x)) NF (hp s) 0 NF [(0, .ref 1), (1, .int v1)] [] (hp s)
  unfold f_X11_isPoured at hf
  refine e_aload_n dX11_isPoured_0 0 rfl rfl (pc2 := 1) rfl ?_
  refine e_iload_n dX11_isPoured_1 1 rfl rfl (pc2 := 2) rfl ?_
  obtain ⟨y1, hy1, hf⟩ := bnd_s hf
  refine e_callVs (t_X11_isThing v1 s hy1) dX11_isPoured_2 cv_X11_109 rfl so_1 rc_10 (by decide) (by first | exact Nat.le_of_ble_eq_true rfl | simp [rva_cat, vc_i, vc_r, vc_l, vc_n]) nn0 rfl (pc2 := 5) rfl ?_
  refine e_if_eq (tgt := 28) dX11_isPoured_5 (by decide) (pc2 := 8) rfl (fun c2 => ?_) (fun c2 => ?_)
  · have hf := if_t c2 hf
    refine e_iconst (x := 0) dX11_isPoured_28 (by decide) (pc2 := 29) rfl ?_
    cases hf
    exact e_zret (by decide) rfl dX11_isPoured_29
  · have hf := if_f c2 hf
    refine e_aload_n dX11_isPoured_8 0 rfl rfl (pc2 := 9) rfl ?_
    obtain ⟨g3, hf⟩ := gd_some hf
    refine e_getR (r := s.2.2.1) fl_X11_61 dX11_isPoured_9 so_1 rfl (okX4_ne g3) (pc2 := 12) rfl ?_
    refine e_getR (r := Rf (s.2.2.1) 13) fl_X11_113 dX11_isPoured_12 (okX4_o g3) (okX4_R g3) (isA_ne (okX4_thing g3)) (pc2 := 15) rfl ?_
    refine e_iload_n dX11_isPoured_15 1 rfl rfl (pc2 := 16) rfl ?_
    obtain ⟨g4, hf⟩ := gd_some hf
    refine e_aald (r := Rf (Rf (s.2.2.1) 13) v1.toNatClampNeg) dX11_isPoured_16 (okX4_thing g3) (by decide) (inb_v g4) (Rs_na (q := s.2.2) (okX4_thing g3) (by decide)) (okX9_ne (okX4_thing_el g3 (inb_v g4))) (pc2 := 17) rfl ?_
    refine e_getI fl_X11_117 dX11_isPoured_17 (okX9_o (okX4_thing_el g3 (inb_v g4))) (by decide) (pc2 := 20) rfl ?_
    refine e_iconst (x := 2) dX11_isPoured_20 (by decide) (pc2 := 21) rfl ?_
    refine e_icmp_eq (tgt := 28) dX11_isPoured_21 (by decide) (pc2 := 24) rfl (fun c5 => ?_) (fun c5 => ?_)
    · have hf := if_t c5 hf
      refine e_iconst (x := 0) dX11_isPoured_28 (by decide) (pc2 := 29) rfl ?_
      cases hf
      exact e_zret (by decide) rfl dX11_isPoured_29
    · have hf := if_f c5 hf
      refine e_iconst (x := 1) dX11_isPoured_24 (by decide) (pc2 := 25) rfl ?_
      refine e_goto (tgt := 29) dX11_isPoured_25 (by decide) ?_
      cases hf
      exact e_zret (by decide) rfl dX11_isPoured_29
abbrev DDX11_best : Nat := 7
def f_X11_best_j80 (v1 : Int32) (v2 : Int32) (v3 : Int32) (v4 : Int32) (v5 : Int32) (w0 : Int32) (k29 : Int32 → Int32 → Int32 → HS → Option (Int32 × HS)) (s : HS) : Option (Int32 × HS) :=
  (if w0 ≤ v4 then ltb (v5 + 1) fun x13 => k29 v3 v4 x13 s else ltb (v5 + 1) fun x14 => k29 v5 w0 x14 s)
set_option maxRecDepth 20000 in
set_option maxHeartbeats 2000000 in
theorem t_X11_best_j80 (v1 : Int32) (v2 : Int32) (v3 : Int32) (v4 : Int32) (v5 : Int32) (w0 : Int32) (s : HS) {x : Int32} {t : HS} (k29 : Int32 → Int32 → Int32 → HS → Option (Int32 × HS)) (hk29 : ∀ (a3 : Int32) (a4 : Int32) (a5 : Int32) (s : HS), k29 a3 a4 a5 s = some (x, t) → Ev DDX11_best miX11_best NF (some (.int x)) NF (hp t) 29 NF [(0, .ref 1), (1, .int v1), (2, .int v2), (3, .int a3), (4, .int a4), (5, .int a5)] [] (hp s)) (hf : f_X11_best_j80 v1 v2 v3 v4 v5 w0 k29 s = some (x, t)) : Ev DDX11_best miX11_best NF (some (.int x)) NF (hp t) 80 NF [(0, .ref 1), (1, .int v1), (2, .int v2), (3, .int v3), (4, .int v4), (5, .int v5)] [.int w0] (hp s) := by
  refine e_istore dX11_best_80 (by decide) rfl (ls' := [(0, .ref 1), (1, .int v1), (2, .int v2), (3, .int v3), (4, .int v4), (5, .int v5), (6, .int w0)]) [1, 2, 3, 4, 5, 6, 0] rfl (pc2 := 82) rfl ?_
  refine e_iload dX11_best_82 6 rfl (pc2 := 84) rfl ?_
  refine e_iload dX11_best_84 4 rfl (pc2 := 86) rfl ?_
  refine e_icmp_le (tgt := 96) dX11_best_86 (by decide) (pc2 := 89) rfl (fun c12 => ?_) (fun c12 => ?_)
  · have hf := if_t c12 hf
    obtain ⟨x13, ex13, hf⟩ := ltb_s hf
    refine e_iinc dX11_best_96 5 rfl (c9 := 1) (by decide) ex13.symm (by decide) (ls' := [(0, .ref 1), (1, .int v1), (2, .int v2), (3, .int v3), (4, .int v4), (5, .int x13)]) [1, 2, 3, 4, 5, 0] rfl (pc2 := 99) rfl ?_
    refine e_goto (tgt := 29) dX11_best_99 (by decide) ?_
    exact hk29 v3 v4 x13 s hf
  · have hf := if_f c12 hf
    refine e_iload dX11_best_89 6 rfl (pc2 := 91) rfl ?_
    refine e_istore dX11_best_91 (by decide) rfl (ls' := [(0, .ref 1), (1, .int v1), (2, .int v2), (4, .int w0), (5, .int v5)]) [1, 2, 3, 0, 5] rfl (pc2 := 93) rfl ?_
    refine e_iload dX11_best_93 4 rfl (pc2 := 95) rfl ?_
    refine e_istore_n dX11_best_95 rfl (by decide) rfl (ls' := [(0, .ref 1), (1, .int v1), (2, .int v2), (3, .int v5), (4, .int w0), (5, .int v5)]) [1, 2, 3, 0, 4, 5] rfl (pc2 := 96) rfl ?_
    obtain ⟨x14, ex14, hf⟩ := ltb_s hf
    refine e_iinc dX11_best_96 5 rfl (c9 := 1) (by decide) ex14.symm (by decide) (ls' := [(0, .ref 1), (1, .int v1), (2, .int v2), (3, .int v5), (4, .int w0), (5, .int x14)]) [1, 2, 3, 4, 5, 0] rfl (pc2 := 99) rfl ?_
    refine e_goto (tgt := 29) dX11_best_99 (by decide) ?_
    exact hk29 v5 w0 x14 s hf
def f_X11_best_l29b (v1 : Int32) (v2 : Int32) (v3 : Int32) (v4 : Int32) (v5 : Int32) (k29 : Int32 → Int32 → Int32 → HS → Option (Int32 × HS)) (s : HS) : Option (Int32 × HS) :=
  (if 99 < v5 then some (v3, s) else gd (inb v1 5) (ltb (sI s 29 (v1.toNatClampNeg) v5) fun s6 => bnd (f_X11_playTrial s6) fun s9 => (if v2 = 0 then bnd (f_X6_drunkInAll s9) fun y11 => f_X11_best_j80 v1 v2 v3 v4 v5 y11 k29 s9 else bnd (f_X6_paid s9) fun y15 => bnd (f_X6_pouredBack s9) fun y16 => f_X11_best_j80 v1 v2 v3 v4 v5 (y15 + y16) k29 s9)))
set_option maxRecDepth 20000 in
set_option maxHeartbeats 2000000 in
theorem t_X11_best_l29b (v1 : Int32) (v2 : Int32) (v3 : Int32) (v4 : Int32) (v5 : Int32) (s : HS) {x : Int32} {t : HS} (k29 : Int32 → Int32 → Int32 → HS → Option (Int32 × HS)) (hk29 : ∀ (a3 : Int32) (a4 : Int32) (a5 : Int32) (s : HS), k29 a3 a4 a5 s = some (x, t) → Ev DDX11_best miX11_best NF (some (.int x)) NF (hp t) 29 NF [(0, .ref 1), (1, .int v1), (2, .int v2), (3, .int a3), (4, .int a4), (5, .int a5)] [] (hp s)) (hf : f_X11_best_l29b v1 v2 v3 v4 v5 k29 s = some (x, t)) : Ev DDX11_best miX11_best NF (some (.int x)) NF (hp t) 29 NF [(0, .ref 1), (1, .int v1), (2, .int v2), (3, .int v3), (4, .int v4), (5, .int v5)] [] (hp s) := by
  refine e_iload dX11_best_29 5 rfl (pc2 := 31) rfl ?_
  refine e_bipush (x := 99) dX11_best_31 (by decide) (pc2 := 33) rfl ?_
  refine e_icmp_gt (tgt := 102) dX11_best_33 (by decide) (pc2 := 36) rfl (fun c5 => ?_) (fun c5 => ?_)
  · have hf := if_t c5 hf
    refine e_iload_n dX11_best_102 3 rfl rfl (pc2 := 103) rfl ?_
    cases hf
    exact e_iret rfl dX11_best_103
  · have hf := if_f c5 hf
    refine e_aload_n dX11_best_36 0 rfl rfl (pc2 := 37) rfl ?_
    refine e_getR (r := 28) fl_X11_19 dX11_best_37 so_1 (rs_1_6 s.2.2) (by decide) (pc2 := 40) rfl ?_
    refine e_getR (r := 29) fl_X11_128 dX11_best_40 (okX7_o (show okX7 28 = true from rfl)) (rs_28_4 s.2.2) (by decide) (pc2 := 43) rfl ?_
    refine e_iload_n dX11_best_43 1 rfl rfl (pc2 := 44) rfl ?_
    refine e_iload dX11_best_44 5 rfl (pc2 := 46) rfl ?_
    obtain ⟨g7, hf⟩ := gd_some hf
    obtain ⟨s6, es6, hf⟩ := ltb_s hf
    refine e_iast dX11_best_46 sa_29 (inb_v g7) (h2 := hp s6) (by rw [es6]; rfl) (pc2 := 47) rfl ?_
    refine e_aload_n dX11_best_47 0 rfl rfl (pc2 := 48) rfl ?_
    obtain ⟨s9, hy8, hf⟩ := bnd_s hf
    refine e_callVn (t_X11_playTrial  s6 hy8) dX11_best_48 cv_X11_184 rfl so_1 rc_10 (by decide) (by first | exact Nat.le_of_ble_eq_true rfl | simp [rva_cat, vc_i, vc_r, vc_l, vc_n]) nn0 rfl (pc2 := 51) rfl ?_
    refine e_iload_n dX11_best_51 2 rfl rfl (pc2 := 52) rfl ?_
    refine e_if_eq (tgt := 73) dX11_best_52 (by decide) (pc2 := 55) rfl (fun c10 => ?_) (fun c10 => ?_)
    · have hf := if_t c10 hf
      refine e_aload_n dX11_best_73 0 rfl rfl (pc2 := 74) rfl ?_
      refine e_getR (r := 73) fl_X11_72 dX11_best_74 so_1 (rs_1_8 s9.2.2) (by decide) (pc2 := 77) rfl ?_
      obtain ⟨y11, hy11, hf⟩ := bnd_s hf
      refine e_callVs (t_X6_drunkInAll  s9 hy11) dX11_best_77 cv_X11_191 rfl so_73 rc_6 (by decide) (by first | exact Nat.le_of_ble_eq_true rfl | simp [rva_cat, vc_i, vc_r, vc_l, vc_n]) nn0 rfl (pc2 := 80) rfl ?_
      exact t_X11_best_j80 v1 v2 v3 v4 v5 y11 s9 _ hk29 hf
    · have hf := if_f c10 hf
      refine e_aload_n dX11_best_55 0 rfl rfl (pc2 := 56) rfl ?_
      refine e_getR (r := 73) fl_X11_72 dX11_best_56 so_1 (rs_1_8 s9.2.2) (by decide) (pc2 := 59) rfl ?_
      obtain ⟨y15, hy15, hf⟩ := bnd_s hf
      refine e_callVs (t_X6_paid  s9 hy15) dX11_best_59 cv_X11_187 rfl so_73 rc_6 (by decide) (by first | exact Nat.le_of_ble_eq_true rfl | simp [rva_cat, vc_i, vc_r, vc_l, vc_n]) nn0 rfl (pc2 := 62) rfl ?_
      refine e_aload_n dX11_best_62 0 rfl rfl (pc2 := 63) rfl ?_
      refine e_getR (r := 73) fl_X11_72 dX11_best_63 so_1 (rs_1_8 s9.2.2) (by decide) (pc2 := 66) rfl ?_
      obtain ⟨y16, hy16, hf⟩ := bnd_s hf
      refine e_callVs (t_X6_pouredBack  s9 hy16) dX11_best_66 cv_X11_273 rfl so_73 rc_6 (by decide) (by first | exact Nat.le_of_ble_eq_true rfl | simp [rva_cat, vc_i, vc_r, vc_l, vc_n]) nn0 rfl (pc2 := 69) rfl ?_
      refine e_iadd dX11_best_69 (pc2 := 70) rfl ?_
      refine e_goto (tgt := 80) dX11_best_70 (by decide) ?_
      exact t_X11_best_j80 v1 v2 v3 v4 v5 (y15 + y16) s9 _ hk29 hf
def f_X11_best_l29 (v1 : Int32) (v2 : Int32) : Nat → Int32 → Int32 → Int32 → HS → Option (Int32 × HS)
  | 0, _, _, _, _ => none
  | n + 1, v3, v4, v5, s => f_X11_best_l29b v1 v2 v3 v4 v5 (f_X11_best_l29 v1 v2 n)  s
set_option maxRecDepth 20000 in
set_option maxHeartbeats 2000000 in
theorem t_X11_best_l29 (v1 : Int32) (v2 : Int32) {x : Int32} {t : HS}  : ∀ (n : Nat) (v3 : Int32) (v4 : Int32) (v5 : Int32) (s : HS), f_X11_best_l29 v1 v2 n v3 v4 v5 s = some (x, t) → Ev DDX11_best miX11_best NF (some (.int x)) NF (hp t) 29 NF [(0, .ref 1), (1, .int v1), (2, .int v2), (3, .int v3), (4, .int v4), (5, .int v5)] [] (hp s) := by
  intro n
  induction n with
  | zero =>
    intro v3 v4 v5 s hf
    have hf : none = some (x, t) := hf
    cases hf
  | succ n ih =>
    intro v3 v4 v5 s hf
    exact t_X11_best_l29b v1 v2 v3 v4 v5  s _ ih  hf
def f_X11_best (v1 : Int32) (v2 : Int32) (s : HS) : Option (Int32 × HS) :=
  bnd (f_X11_isPoured v1 s) fun y1 => (if y1 = 0 then some ((-1), s) else bnd (f_X7_copyHand 28 64 s) fun s4 => f_X11_best_l29 v1 v2 FU 0 (-1) 0 s4)
set_option maxRecDepth 20000 in
set_option maxHeartbeats 2000000 in
theorem t_X11_best (v1 : Int32) (v2 : Int32) (s : HS) {x : Int32} {t : HS} (hf : f_X11_best  v1 v2 s = some (x, t)) : Mt DDX11_best miX11_best [.ref 1, .int v1, .int v2] NF (hp s) (some (.int x)) NF (hp t) := by
  refine Mt.of (by decide +kernel) (Nat.le_refl _) (Nat.le_of_ble_eq_true rfl) ?_
  show Ev DDX11_best miX11_best NF (some (.int x)) NF (hp t) 0 NF [(0, .ref 1), (1, .int v1), (2, .int v2)] [] (hp s)
  unfold f_X11_best at hf
  refine e_aload_n dX11_best_0 0 rfl rfl (pc2 := 1) rfl ?_
  refine e_iload_n dX11_best_1 1 rfl rfl (pc2 := 2) rfl ?_
  obtain ⟨y1, hy1, hf⟩ := bnd_s hf
  refine e_callVs (t_X11_isPoured v1 s hy1) dX11_best_2 cv_X11_270 rfl so_1 rc_10 (by decide) (by first | exact Nat.le_of_ble_eq_true rfl | simp [rva_cat, vc_i, vc_r, vc_l, vc_n]) nn0 rfl (pc2 := 5) rfl ?_
  refine e_if_ne (tgt := 10) dX11_best_5 (by decide) (pc2 := 8) rfl (fun c2 => ?_) (fun c2 => ?_)
  · have hf := if_f c2 hf
    refine e_aload_n dX11_best_10 0 rfl rfl (pc2 := 11) rfl ?_
    refine e_getR (r := 28) fl_X11_19 dX11_best_11 so_1 (rs_1_6 s.2.2) (by decide) (pc2 := 14) rfl ?_
    refine e_aload_n dX11_best_14 0 rfl rfl (pc2 := 15) rfl ?_
    refine e_getR (r := 64) fl_X11_64 dX11_best_15 so_1 (rs_1_5 s.2.2) (by decide) (pc2 := 18) rfl ?_
    obtain ⟨s4, hy3, hf⟩ := bnd_s hf
    refine e_callVn (t_X7_copyHand 28 (show okX7 28 = true from rfl) 64 (show okX7 64 = true from rfl) s hy3) dX11_best_18 cv_X11_225 rfl (okX7_o (show okX7 28 = true from rfl)) rc_7 (by decide) (by first | exact Nat.le_of_ble_eq_true rfl | simp [rva_cat, vc_i, vc_r, vc_l, vc_n]) nn0 rfl (pc2 := 21) rfl ?_
    refine e_iconst (x := 0) dX11_best_21 (by decide) (pc2 := 22) rfl ?_
    refine e_istore_n dX11_best_22 rfl (by decide) rfl (ls' := [(0, .ref 1), (1, .int v1), (2, .int v2), (3, .int 0)]) [1, 2, 3, 0] rfl (pc2 := 23) rfl ?_
    refine e_iconst (x := (-1)) dX11_best_23 (by decide) (pc2 := 24) rfl ?_
    refine e_istore dX11_best_24 (by decide) rfl (ls' := [(0, .ref 1), (1, .int v1), (2, .int v2), (3, .int 0), (4, .int (-1))]) [1, 2, 3, 4, 0] rfl (pc2 := 26) rfl ?_
    refine e_iconst (x := 0) dX11_best_26 (by decide) (pc2 := 27) rfl ?_
    refine e_istore dX11_best_27 (by decide) rfl (ls' := [(0, .ref 1), (1, .int v1), (2, .int v2), (3, .int 0), (4, .int (-1)), (5, .int 0)]) [1, 2, 3, 4, 5, 0] rfl (pc2 := 29) rfl ?_
    refine t_X11_best_l29 v1 v2 FU 0 (-1) 0 s4 hf
  · have hf := if_t c2 hf
    refine e_iconst (x := (-1)) dX11_best_8 (by decide) (pc2 := 9) rfl ?_
    cases hf
    exact e_iret rfl dX11_best_9
abbrev DDX11_trayPence : Nat := 2
def f_X11_trayPence_l8b (v2 : Int32) (v3 : Int32) (v4 : Int32) (v5 : Int32) (k8 : Int32 → Int32 → Int32 → Option Int32) (s : HS) : Option Int32 :=
  gd (okX4 (s.2.2.1)) ((if (s.1 (s.2.2.1) 14) ≤ v5 then some v4 else gd (okX4 (s.2.2.1)) (gd (inb v5 6) (ltb (Rf (Rf (s.2.2.1) 15) v5.toNatClampNeg) fun o5 => (if (s.1 o5 4) < v2 then ltb (v5 + 1) fun x7 => k8 v3 v4 x7 else (if v3 < (s.1 o5 6) then ltb (v5 + 1) fun x9 => k8 v3 v4 x9 else ltb (v3 - (s.1 o5 6)) fun x10 => gd (okX4 (s.2.2.1)) (bnd (f_X4_priceFor (s.2.2.1) v5 s) fun y12 => ltb (v4 + (y12 + ((s.1 o5 6) * v2))) fun x13 => ltb (v5 + 1) fun x14 => k8 x10 x13 x14)))))))
set_option maxRecDepth 20000 in
set_option maxHeartbeats 2000000 in
theorem t_X11_trayPence_l8b (v2 : Int32) (v3 : Int32) (v4 : Int32) (v5 : Int32) (s : HS) {x : Int32} (k8 : Int32 → Int32 → Int32 → Option Int32) (hk8 : ∀ (a3 : Int32) (a4 : Int32) (a5 : Int32), k8 a3 a4 a5 = some x → Ev DDX11_trayPence miX11_trayPence NF (some (.int x)) NF (hp s) 8 NF [(0, .ref 1), (2, .int v2), (3, .int a3), (4, .int a4), (5, .int a5)] [] (hp s)) (hf : f_X11_trayPence_l8b v2 v3 v4 v5 k8 s = some x) : Ev DDX11_trayPence miX11_trayPence NF (some (.int x)) NF (hp s) 8 NF [(0, .ref 1), (2, .int v2), (3, .int v3), (4, .int v4), (5, .int v5)] [] (hp s) := by
  refine e_iload dX11_trayPence_8 4 rfl (pc2 := 10) rfl ?_
  refine e_aload_n dX11_trayPence_10 0 rfl rfl (pc2 := 11) rfl ?_
  obtain ⟨g1, hf⟩ := gd_some hf
  refine e_getR (r := s.2.2.1) fl_X11_61 dX11_trayPence_11 so_1 rfl (okX4_ne g1) (pc2 := 14) rfl ?_
  refine e_getI fl_X11_229 dX11_trayPence_14 (okX4_o g1) (by decide) (pc2 := 17) rfl ?_
  refine e_icmp_ge (tgt := 86) dX11_trayPence_17 (by decide) (pc2 := 20) rfl (fun c2 => ?_) (fun c2 => ?_)
  · have hf := if_t c2 hf
    refine e_iload dX11_trayPence_86 3 rfl (pc2 := 88) rfl ?_
    cases hf
    exact e_iret rfl dX11_trayPence_88
  · have hf := if_f c2 hf
    refine e_aload_n dX11_trayPence_20 0 rfl rfl (pc2 := 21) rfl ?_
    obtain ⟨g3, hf⟩ := gd_some hf
    refine e_getR (r := s.2.2.1) fl_X11_61 dX11_trayPence_21 so_1 rfl (okX4_ne g3) (pc2 := 24) rfl ?_
    refine e_getR (r := Rf (s.2.2.1) 15) fl_X11_137 dX11_trayPence_24 (okX4_o g3) (okX4_R g3) (isA_ne (okX4_buyer g3)) (pc2 := 27) rfl ?_
    refine e_iload dX11_trayPence_27 4 rfl (pc2 := 29) rfl ?_
    obtain ⟨g4, hf⟩ := gd_some hf
    refine e_aald (r := Rf (Rf (s.2.2.1) 15) v5.toNatClampNeg) dX11_trayPence_29 (okX4_buyer g3) (by decide) (inb_v g4) (Rs_na (q := s.2.2) (okX4_buyer g3) (by decide)) (okX0_ne (okX4_buyer_el g3 (inb_v g4))) (pc2 := 30) rfl ?_
    obtain ⟨o5, eo5, hf⟩ := ltb_s hf
    have ho5 : okX0 o5 = true := by rw [eo5]; exact (okX4_buyer_el g3 (inb_v g4))
    refine e_astore dX11_trayPence_30 (by decide) eo5.symm (ls' := [(0, .ref 1), (2, .int v2), (3, .int v3), (4, .int v4), (5, .int v5), (6, .ref o5)]) [1, 2, 3, 4, 5, 0] rfl (pc2 := 32) rfl ?_
    refine e_aload dX11_trayPence_32 5 rfl (pc2 := 34) rfl ?_
    refine e_getI fl_X11_152 dX11_trayPence_34 (okX0_o ho5) (by decide) (pc2 := 37) rfl ?_
    refine e_iload_n dX11_trayPence_37 1 rfl rfl (pc2 := 38) rfl ?_
    refine e_icmp_lt (tgt := 80) dX11_trayPence_38 (by decide) (pc2 := 41) rfl (fun c6 => ?_) (fun c6 => ?_)
    · have hf := if_t c6 hf
      obtain ⟨x7, ex7, hf⟩ := ltb_s hf
      refine e_iinc dX11_trayPence_80 4 rfl (c9 := 1) (by decide) ex7.symm (by decide) (ls' := [(0, .ref 1), (2, .int v2), (3, .int v3), (4, .int v4), (5, .int x7)]) [1, 2, 3, 4, 0] rfl (pc2 := 83) rfl ?_
      refine e_goto (tgt := 8) dX11_trayPence_83 (by decide) ?_
      exact hk8 v3 v4 x7 hf
    · have hf := if_f c6 hf
      refine e_aload dX11_trayPence_41 5 rfl (pc2 := 43) rfl ?_
      refine e_getI fl_X11_335 dX11_trayPence_43 (okX0_o ho5) (by decide) (pc2 := 46) rfl ?_
      refine e_iload_n dX11_trayPence_46 2 rfl rfl (pc2 := 47) rfl ?_
      refine e_icmp_gt (tgt := 80) dX11_trayPence_47 (by decide) (pc2 := 50) rfl (fun c8 => ?_) (fun c8 => ?_)
      · have hf := if_t c8 hf
        obtain ⟨x9, ex9, hf⟩ := ltb_s hf
        refine e_iinc dX11_trayPence_80 4 rfl (c9 := 1) (by decide) ex9.symm (by decide) (ls' := [(0, .ref 1), (2, .int v2), (3, .int v3), (4, .int v4), (5, .int x9)]) [1, 2, 3, 4, 0] rfl (pc2 := 83) rfl ?_
        refine e_goto (tgt := 8) dX11_trayPence_83 (by decide) ?_
        exact hk8 v3 v4 x9 hf
      · have hf := if_f c8 hf
        refine e_iload_n dX11_trayPence_50 2 rfl rfl (pc2 := 51) rfl ?_
        refine e_aload dX11_trayPence_51 5 rfl (pc2 := 53) rfl ?_
        refine e_getI fl_X11_335 dX11_trayPence_53 (okX0_o ho5) (by decide) (pc2 := 56) rfl ?_
        refine e_isub dX11_trayPence_56 (pc2 := 57) rfl ?_
        obtain ⟨x10, ex10, hf⟩ := ltb_s hf
        refine e_istore_n dX11_trayPence_57 rfl (by decide) ex10.symm (ls' := [(0, .ref 1), (2, .int v2), (3, .int x10), (4, .int v4), (5, .int v5), (6, .ref o5)]) [1, 2, 0, 3, 4, 5] rfl (pc2 := 58) rfl ?_
        refine e_iload dX11_trayPence_58 3 rfl (pc2 := 60) rfl ?_
        refine e_aload_n dX11_trayPence_60 0 rfl rfl (pc2 := 61) rfl ?_
        obtain ⟨g11, hf⟩ := gd_some hf
        refine e_getR (r := s.2.2.1) fl_X11_61 dX11_trayPence_61 so_1 rfl (okX4_ne g11) (pc2 := 64) rfl ?_
        refine e_iload dX11_trayPence_64 4 rfl (pc2 := 66) rfl ?_
        obtain ⟨y12, hy12, hf⟩ := bnd_s hf
        refine e_callVs (t_X4_priceFor (s.2.2.1) g11 v5 s hy12) dX11_trayPence_66 cv_X11_338 rfl (okX4_o g11) rc_4 (by decide) (by first | exact Nat.le_of_ble_eq_true rfl | simp [rva_cat, vc_i, vc_r, vc_l, vc_n]) nn0 rfl (pc2 := 69) rfl ?_
        refine e_aload dX11_trayPence_69 5 rfl (pc2 := 71) rfl ?_
        refine e_getI fl_X11_335 dX11_trayPence_71 (okX0_o ho5) (by decide) (pc2 := 74) rfl ?_
        refine e_iload_n dX11_trayPence_74 1 rfl rfl (pc2 := 75) rfl ?_
        refine e_imul dX11_trayPence_75 (pc2 := 76) rfl ?_
        refine e_iadd dX11_trayPence_76 (pc2 := 77) rfl ?_
        refine e_iadd dX11_trayPence_77 (pc2 := 78) rfl ?_
        obtain ⟨x13, ex13, hf⟩ := ltb_s hf
        refine e_istore dX11_trayPence_78 (by decide) ex13.symm (ls' := [(0, .ref 1), (2, .int v2), (3, .int x10), (4, .int x13), (5, .int v5)]) [1, 2, 3, 0, 4] rfl (pc2 := 80) rfl ?_
        obtain ⟨x14, ex14, hf⟩ := ltb_s hf
        refine e_iinc dX11_trayPence_80 4 rfl (c9 := 1) (by decide) ex14.symm (by decide) (ls' := [(0, .ref 1), (2, .int v2), (3, .int x10), (4, .int x13), (5, .int x14)]) [1, 2, 3, 4, 0] rfl (pc2 := 83) rfl ?_
        refine e_goto (tgt := 8) dX11_trayPence_83 (by decide) ?_
        exact hk8 x10 x13 x14 hf
def f_X11_trayPence_l8 (v2 : Int32) (s : HS) : Nat → Int32 → Int32 → Int32 → Option Int32
  | 0, _, _, _ => none
  | n + 1, v3, v4, v5 => f_X11_trayPence_l8b v2 v3 v4 v5 (f_X11_trayPence_l8 v2 s n)  s
set_option maxRecDepth 20000 in
set_option maxHeartbeats 2000000 in
theorem t_X11_trayPence_l8 (v2 : Int32) (s : HS) {x : Int32}  : ∀ (n : Nat) (v3 : Int32) (v4 : Int32) (v5 : Int32), f_X11_trayPence_l8 v2 s n v3 v4 v5 = some x → Ev DDX11_trayPence miX11_trayPence NF (some (.int x)) NF (hp s) 8 NF [(0, .ref 1), (2, .int v2), (3, .int v3), (4, .int v4), (5, .int v5)] [] (hp s) := by
  intro n
  induction n with
  | zero =>
    intro v3 v4 v5 hf
    have hf : none = some x := hf
    cases hf
  | succ n ih =>
    intro v3 v4 v5 hf
    exact t_X11_trayPence_l8b v2 v3 v4 v5  s _ ih  hf
def f_X11_trayPence (v1 : Int32) (v2 : Int32) (s : HS) : Option Int32 :=
  f_X11_trayPence_l8 v2 s FU v1 0 0
set_option maxRecDepth 20000 in
set_option maxHeartbeats 2000000 in
theorem t_X11_trayPence (v1 : Int32) (v2 : Int32) (s : HS) {x : Int32} (hf : f_X11_trayPence  v1 v2 s = some x) : Mt DDX11_trayPence miX11_trayPence [.ref 1, .int v1, .int v2] NF (hp s) (some (.int x)) NF (hp s) := by
  refine Mt.of (by decide +kernel) (Nat.le_refl _) (Nat.le_of_ble_eq_true rfl) ?_
  show Ev DDX11_trayPence miX11_trayPence NF (some (.int x)) NF (hp s) 0 NF [(0, .ref 1), (1, .int v1), (2, .int v2)] [] (hp s)
  unfold f_X11_trayPence at hf
  refine e_iload_n dX11_trayPence_0 1 rfl rfl (pc2 := 1) rfl ?_
  refine e_istore_n dX11_trayPence_1 rfl (by decide) rfl (ls' := [(0, .ref 1), (2, .int v2), (3, .int v1)]) [1, 3, 0] rfl (pc2 := 2) rfl ?_
  refine e_iconst (x := 0) dX11_trayPence_2 (by decide) (pc2 := 3) rfl ?_
  refine e_istore dX11_trayPence_3 (by decide) rfl (ls' := [(0, .ref 1), (2, .int v2), (3, .int v1), (4, .int 0)]) [1, 2, 3, 0] rfl (pc2 := 5) rfl ?_
  refine e_iconst (x := 0) dX11_trayPence_5 (by decide) (pc2 := 6) rfl ?_
  refine e_istore dX11_trayPence_6 (by decide) rfl (ls' := [(0, .ref 1), (2, .int v2), (3, .int v1), (4, .int 0), (5, .int 0)]) [1, 2, 3, 4, 0] rfl (pc2 := 8) rfl ?_
  refine t_X11_trayPence_l8 v2 s FU v1 0 0 hf
abbrev DDX11_tray : Nat := 3
def f_X11_tray (v1 : Int32) (v2 : Int32) (s : HS) : Option Int32 :=
  (if v1 < 0 then some (-1) else (if 36 < v1 then some (-1) else (if v2 < 0 then some (-1) else (if v2 ≤ 99 then bnd (f_X11_trayPence v1 v2 s) fun y5 => some y5 else some (-1)))))
set_option maxRecDepth 20000 in
set_option maxHeartbeats 2000000 in
theorem t_X11_tray (v1 : Int32) (v2 : Int32) (s : HS) {x : Int32} (hf : f_X11_tray  v1 v2 s = some x) : Mt DDX11_tray miX11_tray [.ref 1, .int v1, .int v2] NF (hp s) (some (.int x)) NF (hp s) := by
  refine Mt.of (by decide +kernel) (Nat.le_refl _) (Nat.le_of_ble_eq_true rfl) ?_
  show Ev DDX11_tray miX11_tray NF (some (.int x)) NF (hp s) 0 NF [(0, .ref 1), (1, .int v1), (2, .int v2)] [] (hp s)
  unfold f_X11_tray at hf
  refine e_iload_n dX11_tray_0 1 rfl rfl (pc2 := 1) rfl ?_
  refine e_if_lt (tgt := 20) dX11_tray_1 (by decide) (pc2 := 4) rfl (fun c1 => ?_) (fun c1 => ?_)
  · have hf := if_t c1 hf
    refine e_iconst (x := (-1)) dX11_tray_20 (by decide) (pc2 := 21) rfl ?_
    cases hf
    exact e_iret rfl dX11_tray_21
  · have hf := if_f c1 hf
    refine e_iload_n dX11_tray_4 1 rfl rfl (pc2 := 5) rfl ?_
    refine e_bipush (x := 36) dX11_tray_5 (by decide) (pc2 := 7) rfl ?_
    refine e_icmp_gt (tgt := 20) dX11_tray_7 (by decide) (pc2 := 10) rfl (fun c2 => ?_) (fun c2 => ?_)
    · have hf := if_t c2 hf
      refine e_iconst (x := (-1)) dX11_tray_20 (by decide) (pc2 := 21) rfl ?_
      cases hf
      exact e_iret rfl dX11_tray_21
    · have hf := if_f c2 hf
      refine e_iload_n dX11_tray_10 2 rfl rfl (pc2 := 11) rfl ?_
      refine e_if_lt (tgt := 20) dX11_tray_11 (by decide) (pc2 := 14) rfl (fun c3 => ?_) (fun c3 => ?_)
      · have hf := if_t c3 hf
        refine e_iconst (x := (-1)) dX11_tray_20 (by decide) (pc2 := 21) rfl ?_
        cases hf
        exact e_iret rfl dX11_tray_21
      · have hf := if_f c3 hf
        refine e_iload_n dX11_tray_14 2 rfl rfl (pc2 := 15) rfl ?_
        refine e_bipush (x := 99) dX11_tray_15 (by decide) (pc2 := 17) rfl ?_
        refine e_icmp_le (tgt := 22) dX11_tray_17 (by decide) (pc2 := 20) rfl (fun c4 => ?_) (fun c4 => ?_)
        · have hf := if_t c4 hf
          refine e_aload_n dX11_tray_22 0 rfl rfl (pc2 := 23) rfl ?_
          refine e_iload_n dX11_tray_23 1 rfl rfl (pc2 := 24) rfl ?_
          refine e_iload_n dX11_tray_24 2 rfl rfl (pc2 := 25) rfl ?_
          obtain ⟨y5, hy5, hf⟩ := bnd_s hf
          refine e_callVs (t_X11_trayPence v1 v2 s hy5) dX11_tray_25 cv_X11_276 rfl so_1 rc_10 (by decide) (by first | exact Nat.le_of_ble_eq_true rfl | simp [rva_cat, vc_i, vc_r, vc_l, vc_n]) nn0 rfl (pc2 := 28) rfl ?_
          cases hf
          exact e_iret rfl dX11_tray_28
        · have hf := if_f c4 hf
          refine e_iconst (x := (-1)) dX11_tray_20 (by decide) (pc2 := 21) rfl ?_
          cases hf
          exact e_iret rfl dX11_tray_21
abbrev DDX11_price : Nat := 3
def f_X11_price_l19b (v1 : Int32) (v2 : Int32) (v3 : Int32) (v4 : Int32) (k19 : Int32 → Int32 → Int32 → Option Int32) (s : HS) : Option Int32 :=
  (if 99 < v4 then some v2 else bnd (f_X11_trayPence v1 v4 s) fun y4 => (if y4 ≤ v3 then ltb (v4 + 1) fun x6 => k19 v2 v3 x6 else ltb (v4 + 1) fun x7 => k19 v4 y4 x7))
set_option maxRecDepth 20000 in
set_option maxHeartbeats 2000000 in
theorem t_X11_price_l19b (v1 : Int32) (v2 : Int32) (v3 : Int32) (v4 : Int32) (s : HS) {x : Int32} (k19 : Int32 → Int32 → Int32 → Option Int32) (hk19 : ∀ (a2 : Int32) (a3 : Int32) (a4 : Int32), k19 a2 a3 a4 = some x → Ev DDX11_price miX11_price NF (some (.int x)) NF (hp s) 19 NF [(0, .ref 1), (1, .int v1), (2, .int a2), (3, .int a3), (4, .int a4)] [] (hp s)) (hf : f_X11_price_l19b v1 v2 v3 v4 k19 s = some x) : Ev DDX11_price miX11_price NF (some (.int x)) NF (hp s) 19 NF [(0, .ref 1), (1, .int v1), (2, .int v2), (3, .int v3), (4, .int v4)] [] (hp s) := by
  refine e_iload dX11_price_19 4 rfl (pc2 := 21) rfl ?_
  refine e_bipush (x := 99) dX11_price_21 (by decide) (pc2 := 23) rfl ?_
  refine e_icmp_gt (tgt := 53) dX11_price_23 (by decide) (pc2 := 26) rfl (fun c3 => ?_) (fun c3 => ?_)
  · have hf := if_t c3 hf
    refine e_iload_n dX11_price_53 2 rfl rfl (pc2 := 54) rfl ?_
    cases hf
    exact e_iret rfl dX11_price_54
  · have hf := if_f c3 hf
    refine e_aload_n dX11_price_26 0 rfl rfl (pc2 := 27) rfl ?_
    refine e_iload_n dX11_price_27 1 rfl rfl (pc2 := 28) rfl ?_
    refine e_iload dX11_price_28 4 rfl (pc2 := 30) rfl ?_
    obtain ⟨y4, hy4, hf⟩ := bnd_s hf
    refine e_callVs (t_X11_trayPence v1 v4 s hy4) dX11_price_30 cv_X11_276 rfl so_1 rc_10 (by decide) (by first | exact Nat.le_of_ble_eq_true rfl | simp [rva_cat, vc_i, vc_r, vc_l, vc_n]) nn0 rfl (pc2 := 33) rfl ?_
    refine e_istore dX11_price_33 (by decide) rfl (ls' := [(0, .ref 1), (1, .int v1), (2, .int v2), (3, .int v3), (4, .int v4), (5, .int y4)]) [1, 2, 3, 4, 5, 0] rfl (pc2 := 35) rfl ?_
    refine e_iload dX11_price_35 5 rfl (pc2 := 37) rfl ?_
    refine e_iload_n dX11_price_37 3 rfl rfl (pc2 := 38) rfl ?_
    refine e_icmp_le (tgt := 47) dX11_price_38 (by decide) (pc2 := 41) rfl (fun c5 => ?_) (fun c5 => ?_)
    · have hf := if_t c5 hf
      obtain ⟨x6, ex6, hf⟩ := ltb_s hf
      refine e_iinc dX11_price_47 4 rfl (c9 := 1) (by decide) ex6.symm (by decide) (ls' := [(0, .ref 1), (1, .int v1), (2, .int v2), (3, .int v3), (4, .int x6)]) [1, 2, 3, 4, 0] rfl (pc2 := 50) rfl ?_
      refine e_goto (tgt := 19) dX11_price_50 (by decide) ?_
      exact hk19 v2 v3 x6 hf
    · have hf := if_f c5 hf
      refine e_iload dX11_price_41 5 rfl (pc2 := 43) rfl ?_
      refine e_istore_n dX11_price_43 rfl (by decide) rfl (ls' := [(0, .ref 1), (1, .int v1), (3, .int y4), (4, .int v4)]) [1, 2, 0, 4] rfl (pc2 := 44) rfl ?_
      refine e_iload dX11_price_44 3 rfl (pc2 := 46) rfl ?_
      refine e_istore_n dX11_price_46 rfl (by decide) rfl (ls' := [(0, .ref 1), (1, .int v1), (2, .int v4), (3, .int y4), (4, .int v4)]) [1, 2, 0, 3, 4] rfl (pc2 := 47) rfl ?_
      obtain ⟨x7, ex7, hf⟩ := ltb_s hf
      refine e_iinc dX11_price_47 4 rfl (c9 := 1) (by decide) ex7.symm (by decide) (ls' := [(0, .ref 1), (1, .int v1), (2, .int v4), (3, .int y4), (4, .int x7)]) [1, 2, 3, 4, 0] rfl (pc2 := 50) rfl ?_
      refine e_goto (tgt := 19) dX11_price_50 (by decide) ?_
      exact hk19 v4 y4 x7 hf
def f_X11_price_l19 (v1 : Int32) (s : HS) : Nat → Int32 → Int32 → Int32 → Option Int32
  | 0, _, _, _ => none
  | n + 1, v2, v3, v4 => f_X11_price_l19b v1 v2 v3 v4 (f_X11_price_l19 v1 s n)  s
set_option maxRecDepth 20000 in
set_option maxHeartbeats 2000000 in
theorem t_X11_price_l19 (v1 : Int32) (s : HS) {x : Int32}  : ∀ (n : Nat) (v2 : Int32) (v3 : Int32) (v4 : Int32), f_X11_price_l19 v1 s n v2 v3 v4 = some x → Ev DDX11_price miX11_price NF (some (.int x)) NF (hp s) 19 NF [(0, .ref 1), (1, .int v1), (2, .int v2), (3, .int v3), (4, .int v4)] [] (hp s) := by
  intro n
  induction n with
  | zero =>
    intro v2 v3 v4 hf
    have hf : none = some x := hf
    cases hf
  | succ n ih =>
    intro v2 v3 v4 hf
    exact t_X11_price_l19b v1 v2 v3 v4  s _ ih  hf
def f_X11_price (v1 : Int32) (s : HS) : Option Int32 :=
  (if v1 < 0 then some (-1) else (if v1 ≤ 36 then f_X11_price_l19 v1 s FU 0 (-1) 0 else some (-1)))
set_option maxRecDepth 20000 in
set_option maxHeartbeats 2000000 in
theorem t_X11_price (v1 : Int32) (s : HS) {x : Int32} (hf : f_X11_price  v1 s = some x) : Mt DDX11_price miX11_price [.ref 1, .int v1] NF (hp s) (some (.int x)) NF (hp s) := by
  refine Mt.of (by decide +kernel) (Nat.le_refl _) (Nat.le_of_ble_eq_true rfl) ?_
  show Ev DDX11_price miX11_price NF (some (.int x)) NF (hp s) 0 NF [(0, .ref 1), (1, .int v1)] [] (hp s)
  unfold f_X11_price at hf
  refine e_iload_n dX11_price_0 1 rfl rfl (pc2 := 1) rfl ?_
  refine e_if_lt (tgt := 10) dX11_price_1 (by decide) (pc2 := 4) rfl (fun c1 => ?_) (fun c1 => ?_)
  · have hf := if_t c1 hf
    refine e_iconst (x := (-1)) dX11_price_10 (by decide) (pc2 := 11) rfl ?_
    cases hf
    exact e_iret rfl dX11_price_11
  · have hf := if_f c1 hf
    refine e_iload_n dX11_price_4 1 rfl rfl (pc2 := 5) rfl ?_
    refine e_bipush (x := 36) dX11_price_5 (by decide) (pc2 := 7) rfl ?_
    refine e_icmp_le (tgt := 12) dX11_price_7 (by decide) (pc2 := 10) rfl (fun c2 => ?_) (fun c2 => ?_)
    · have hf := if_t c2 hf
      refine e_iconst (x := 0) dX11_price_12 (by decide) (pc2 := 13) rfl ?_
      refine e_istore_n dX11_price_13 rfl (by decide) rfl (ls' := [(0, .ref 1), (1, .int v1), (2, .int 0)]) [1, 2, 0] rfl (pc2 := 14) rfl ?_
      refine e_iconst (x := (-1)) dX11_price_14 (by decide) (pc2 := 15) rfl ?_
      refine e_istore_n dX11_price_15 rfl (by decide) rfl (ls' := [(0, .ref 1), (1, .int v1), (2, .int 0), (3, .int (-1))]) [1, 2, 3, 0] rfl (pc2 := 16) rfl ?_
      refine e_iconst (x := 0) dX11_price_16 (by decide) (pc2 := 17) rfl ?_
      refine e_istore dX11_price_17 (by decide) rfl (ls' := [(0, .ref 1), (1, .int v1), (2, .int 0), (3, .int (-1)), (4, .int 0)]) [1, 2, 3, 4, 0] rfl (pc2 := 19) rfl ?_
      refine t_X11_price_l19 v1 s FU 0 (-1) 0 hf
    · have hf := if_f c2 hf
      refine e_iconst (x := (-1)) dX11_price_10 (by decide) (pc2 := 11) rfl ?_
      cases hf
      exact e_iret rfl dX11_price_11
abbrev DDX11_meanAhead : Nat := 6
def f_X11_meanAhead_l5b (v1 : Int32) (v2 : Int32) (v3 : Int32) (v4 : Int32) (k5 : Int32 → Int32 → HS → Option (Int32 × HS)) (s : HS) : Option (Int32 × HS) :=
  (if 4 ≤ v4 then some (v3 * 100, s) else gd (okX4 (s.2.2.1)) (gd (inb v4 4) ((if (s.1 (Rf (s.2.2.1) 7) v4.toNatClampNeg) ≤ 0 then ltb (v4 + 1) fun x5 => k5 v3 x5 s else gd (okX4 (s.2.2.1)) (bnd (f_X6_layOut (s.2.2.1) 64 s) fun s8 => ltb (sI s8 73 5 v1) fun s9 => ltb (sI s9 73 6 v2) fun s10 => ltb (sI s10 73 7 v4) fun s11 => bnd (f_X6_play s11) fun s13 => gd (okX4 (s13.2.2.1)) (gd (inb v4 4) (bnd (f_X6_drunkInAll s13) fun y16 => ltb (v3 + ((s13.1 (Rf (s13.2.2.1) 7) v4.toNatClampNeg) * (y16 - (s13.1 73 6)))) fun x17 => ltb (v4 + 1) fun x18 => k5 x17 x18 s13)))))))
set_option maxRecDepth 20000 in
set_option maxHeartbeats 2000000 in
theorem t_X11_meanAhead_l5b (v1 : Int32) (v2 : Int32) (v3 : Int32) (v4 : Int32) (s : HS) {x : Int32} {t : HS} (k5 : Int32 → Int32 → HS → Option (Int32 × HS)) (hk5 : ∀ (a3 : Int32) (a4 : Int32) (s : HS), k5 a3 a4 s = some (x, t) → Ev DDX11_meanAhead miX11_meanAhead NF (some (.int x)) NF (hp t) 5 NF [(0, .ref 1), (1, .int v1), (2, .int v2), (3, .int a3), (4, .int a4)] [] (hp s)) (hf : f_X11_meanAhead_l5b v1 v2 v3 v4 k5 s = some (x, t)) : Ev DDX11_meanAhead miX11_meanAhead NF (some (.int x)) NF (hp t) 5 NF [(0, .ref 1), (1, .int v1), (2, .int v2), (3, .int v3), (4, .int v4)] [] (hp s) := by
  refine e_iload dX11_meanAhead_5 4 rfl (pc2 := 7) rfl ?_
  refine e_iconst (x := 4) dX11_meanAhead_7 (by decide) (pc2 := 8) rfl ?_
  refine e_icmp_ge (tgt := 106) dX11_meanAhead_8 (by decide) (pc2 := 11) rfl (fun c1 => ?_) (fun c1 => ?_)
  · have hf := if_t c1 hf
    refine e_iload_n dX11_meanAhead_106 3 rfl rfl (pc2 := 107) rfl ?_
    refine e_bipush (x := 100) dX11_meanAhead_107 (by decide) (pc2 := 109) rfl ?_
    refine e_imul dX11_meanAhead_109 (pc2 := 110) rfl ?_
    cases hf
    exact e_iret rfl dX11_meanAhead_110
  · have hf := if_f c1 hf
    refine e_aload_n dX11_meanAhead_11 0 rfl rfl (pc2 := 12) rfl ?_
    obtain ⟨g2, hf⟩ := gd_some hf
    refine e_getR (r := s.2.2.1) fl_X11_61 dX11_meanAhead_12 so_1 rfl (okX4_ne g2) (pc2 := 15) rfl ?_
    refine e_getR (r := Rf (s.2.2.1) 7) fl_X11_341 dX11_meanAhead_15 (okX4_o g2) (okX4_R g2) (isA_ne (okX4_late g2)) (pc2 := 18) rfl ?_
    refine e_iload dX11_meanAhead_18 4 rfl (pc2 := 20) rfl ?_
    obtain ⟨g3, hf⟩ := gd_some hf
    refine e_iald dX11_meanAhead_20 (okX4_late g2) (inb_v g3) (pc2 := 21) rfl ?_
    refine e_if_le (tgt := 100) dX11_meanAhead_21 (by decide) (pc2 := 24) rfl (fun c4 => ?_) (fun c4 => ?_)
    · have hf := if_t c4 hf
      obtain ⟨x5, ex5, hf⟩ := ltb_s hf
      refine e_iinc dX11_meanAhead_100 4 rfl (c9 := 1) (by decide) ex5.symm (by decide) (ls' := [(0, .ref 1), (1, .int v1), (2, .int v2), (3, .int v3), (4, .int x5)]) [1, 2, 3, 4, 0] rfl (pc2 := 103) rfl ?_
      refine e_goto (tgt := 5) dX11_meanAhead_103 (by decide) ?_
      exact hk5 v3 x5 s hf
    · have hf := if_f c4 hf
      refine e_aload_n dX11_meanAhead_24 0 rfl rfl (pc2 := 25) rfl ?_
      refine e_getR (r := 73) fl_X11_72 dX11_meanAhead_25 so_1 (rs_1_8 s.2.2) (by decide) (pc2 := 28) rfl ?_
      refine e_aload_n dX11_meanAhead_28 0 rfl rfl (pc2 := 29) rfl ?_
      obtain ⟨g6, hf⟩ := gd_some hf
      refine e_getR (r := s.2.2.1) fl_X11_61 dX11_meanAhead_29 so_1 rfl (okX4_ne g6) (pc2 := 32) rfl ?_
      refine e_aload_n dX11_meanAhead_32 0 rfl rfl (pc2 := 33) rfl ?_
      refine e_getR (r := 64) fl_X11_64 dX11_meanAhead_33 so_1 (rs_1_5 s.2.2) (by decide) (pc2 := 36) rfl ?_
      obtain ⟨s8, hy7, hf⟩ := bnd_s hf
      refine e_callVn (t_X6_layOut (s.2.2.1) g6 64 (show okX7 64 = true from rfl) s hy7) dX11_meanAhead_36 cv_X11_258 rfl so_73 rc_6 (by decide) (by first | exact Nat.le_of_ble_eq_true rfl | simp [rva_cat, vc_i, vc_r, vc_l, vc_n]) nn0 rfl (pc2 := 39) rfl ?_
      refine e_aload_n dX11_meanAhead_39 0 rfl rfl (pc2 := 40) rfl ?_
      refine e_getR (r := 73) fl_X11_72 dX11_meanAhead_40 so_1 (rs_1_8 s8.2.2) (by decide) (pc2 := 43) rfl ?_
      refine e_iload_n dX11_meanAhead_43 1 rfl rfl (pc2 := 44) rfl ?_
      obtain ⟨s9, es9, hf⟩ := ltb_s hf
      refine e_putI fl_X11_344 dX11_meanAhead_44 so_73 fn_6_5 (h2 := hp s9) (by rw [es9]; rfl) (pc2 := 47) rfl ?_
      refine e_aload_n dX11_meanAhead_47 0 rfl rfl (pc2 := 48) rfl ?_
      refine e_getR (r := 73) fl_X11_72 dX11_meanAhead_48 so_1 (rs_1_8 s9.2.2) (by decide) (pc2 := 51) rfl ?_
      refine e_iload_n dX11_meanAhead_51 2 rfl rfl (pc2 := 52) rfl ?_
      obtain ⟨s10, es10, hf⟩ := ltb_s hf
      refine e_putI fl_X11_347 dX11_meanAhead_52 so_73 fn_6_6 (h2 := hp s10) (by rw [es10]; rfl) (pc2 := 55) rfl ?_
      refine e_aload_n dX11_meanAhead_55 0 rfl rfl (pc2 := 56) rfl ?_
      refine e_getR (r := 73) fl_X11_72 dX11_meanAhead_56 so_1 (rs_1_8 s10.2.2) (by decide) (pc2 := 59) rfl ?_
      refine e_iload dX11_meanAhead_59 4 rfl (pc2 := 61) rfl ?_
      obtain ⟨s11, es11, hf⟩ := ltb_s hf
      refine e_putI fl_X11_350 dX11_meanAhead_61 so_73 fn_6_7 (h2 := hp s11) (by rw [es11]; rfl) (pc2 := 64) rfl ?_
      refine e_aload_n dX11_meanAhead_64 0 rfl rfl (pc2 := 65) rfl ?_
      refine e_getR (r := 73) fl_X11_72 dX11_meanAhead_65 so_1 (rs_1_8 s11.2.2) (by decide) (pc2 := 68) rfl ?_
      obtain ⟨s13, hy12, hf⟩ := bnd_s hf
      refine e_callVn (t_X6_play  s11 hy12) dX11_meanAhead_68 cv_X11_264 rfl so_73 rc_6 (by decide) (by first | exact Nat.le_of_ble_eq_true rfl | simp [rva_cat, vc_i, vc_r, vc_l, vc_n]) nn0 rfl (pc2 := 71) rfl ?_
      refine e_iload_n dX11_meanAhead_71 3 rfl rfl (pc2 := 72) rfl ?_
      refine e_aload_n dX11_meanAhead_72 0 rfl rfl (pc2 := 73) rfl ?_
      obtain ⟨g14, hf⟩ := gd_some hf
      refine e_getR (r := s13.2.2.1) fl_X11_61 dX11_meanAhead_73 so_1 rfl (okX4_ne g14) (pc2 := 76) rfl ?_
      refine e_getR (r := Rf (s13.2.2.1) 7) fl_X11_341 dX11_meanAhead_76 (okX4_o g14) (okX4_R g14) (isA_ne (okX4_late g14)) (pc2 := 79) rfl ?_
      refine e_iload dX11_meanAhead_79 4 rfl (pc2 := 81) rfl ?_
      obtain ⟨g15, hf⟩ := gd_some hf
      refine e_iald dX11_meanAhead_81 (okX4_late g14) (inb_v g15) (pc2 := 82) rfl ?_
      refine e_aload_n dX11_meanAhead_82 0 rfl rfl (pc2 := 83) rfl ?_
      refine e_getR (r := 73) fl_X11_72 dX11_meanAhead_83 so_1 (rs_1_8 s13.2.2) (by decide) (pc2 := 86) rfl ?_
      obtain ⟨y16, hy16, hf⟩ := bnd_s hf
      refine e_callVs (t_X6_drunkInAll  s13 hy16) dX11_meanAhead_86 cv_X11_191 rfl so_73 rc_6 (by decide) (by first | exact Nat.le_of_ble_eq_true rfl | simp [rva_cat, vc_i, vc_r, vc_l, vc_n]) nn0 rfl (pc2 := 89) rfl ?_
      refine e_aload_n dX11_meanAhead_89 0 rfl rfl (pc2 := 90) rfl ?_
      refine e_getR (r := 73) fl_X11_72 dX11_meanAhead_90 so_1 (rs_1_8 s13.2.2) (by decide) (pc2 := 93) rfl ?_
      refine e_getI fl_X11_347 dX11_meanAhead_93 so_73 (by decide) (pc2 := 96) rfl ?_
      refine e_isub dX11_meanAhead_96 (pc2 := 97) rfl ?_
      refine e_imul dX11_meanAhead_97 (pc2 := 98) rfl ?_
      refine e_iadd dX11_meanAhead_98 (pc2 := 99) rfl ?_
      obtain ⟨x17, ex17, hf⟩ := ltb_s hf
      refine e_istore_n dX11_meanAhead_99 rfl (by decide) ex17.symm (ls' := [(0, .ref 1), (1, .int v1), (2, .int v2), (3, .int x17), (4, .int v4)]) [1, 2, 3, 0, 4] rfl (pc2 := 100) rfl ?_
      obtain ⟨x18, ex18, hf⟩ := ltb_s hf
      refine e_iinc dX11_meanAhead_100 4 rfl (c9 := 1) (by decide) ex18.symm (by decide) (ls' := [(0, .ref 1), (1, .int v1), (2, .int v2), (3, .int x17), (4, .int x18)]) [1, 2, 3, 4, 0] rfl (pc2 := 103) rfl ?_
      refine e_goto (tgt := 5) dX11_meanAhead_103 (by decide) ?_
      exact hk5 x17 x18 s13 hf
def f_X11_meanAhead_l5 (v1 : Int32) (v2 : Int32) : Nat → Int32 → Int32 → HS → Option (Int32 × HS)
  | 0, _, _, _ => none
  | n + 1, v3, v4, s => f_X11_meanAhead_l5b v1 v2 v3 v4 (f_X11_meanAhead_l5 v1 v2 n)  s
set_option maxRecDepth 20000 in
set_option maxHeartbeats 2000000 in
theorem t_X11_meanAhead_l5 (v1 : Int32) (v2 : Int32) {x : Int32} {t : HS}  : ∀ (n : Nat) (v3 : Int32) (v4 : Int32) (s : HS), f_X11_meanAhead_l5 v1 v2 n v3 v4 s = some (x, t) → Ev DDX11_meanAhead miX11_meanAhead NF (some (.int x)) NF (hp t) 5 NF [(0, .ref 1), (1, .int v1), (2, .int v2), (3, .int v3), (4, .int v4)] [] (hp s) := by
  intro n
  induction n with
  | zero =>
    intro v3 v4 s hf
    have hf : none = some (x, t) := hf
    cases hf
  | succ n ih =>
    intro v3 v4 s hf
    exact t_X11_meanAhead_l5b v1 v2 v3 v4  s _ ih  hf
def f_X11_meanAhead (v1 : Int32) (v2 : Int32) (s : HS) : Option (Int32 × HS) :=
  f_X11_meanAhead_l5 v1 v2 FU 0 0 s
set_option maxRecDepth 20000 in
set_option maxHeartbeats 2000000 in
theorem t_X11_meanAhead (v1 : Int32) (v2 : Int32) (s : HS) {x : Int32} {t : HS} (hf : f_X11_meanAhead  v1 v2 s = some (x, t)) : Mt DDX11_meanAhead miX11_meanAhead [.ref 1, .int v1, .int v2] NF (hp s) (some (.int x)) NF (hp t) := by
  refine Mt.of (by decide +kernel) (Nat.le_refl _) (Nat.le_of_ble_eq_true rfl) ?_
  show Ev DDX11_meanAhead miX11_meanAhead NF (some (.int x)) NF (hp t) 0 NF [(0, .ref 1), (1, .int v1), (2, .int v2)] [] (hp s)
  unfold f_X11_meanAhead at hf
  refine e_iconst (x := 0) dX11_meanAhead_0 (by decide) (pc2 := 1) rfl ?_
  refine e_istore_n dX11_meanAhead_1 rfl (by decide) rfl (ls' := [(0, .ref 1), (1, .int v1), (2, .int v2), (3, .int 0)]) [1, 2, 3, 0] rfl (pc2 := 2) rfl ?_
  refine e_iconst (x := 0) dX11_meanAhead_2 (by decide) (pc2 := 3) rfl ?_
  refine e_istore dX11_meanAhead_3 (by decide) rfl (ls' := [(0, .ref 1), (1, .int v1), (2, .int v2), (3, .int 0), (4, .int 0)]) [1, 2, 3, 4, 0] rfl (pc2 := 5) rfl ?_
  refine t_X11_meanAhead_l5 v1 v2 FU 0 0 s hf
abbrev DDX11_ahead : Nat := 7
def f_X11_ahead (v1 : Int32) (v2 : Int32) (s : HS) : Option (Int32 × HS) :=
  bnd (f_X11_isPoured v1 s) fun y1 => (if y1 = 0 then some ((-1), s) else (if v2 < 0 then some ((-1), s) else (if v2 ≤ 12 then bnd2 (f_X11_meanAhead v1 v2 s) fun y5 s6 => some (y5, s6) else some ((-1), s))))
set_option maxRecDepth 20000 in
set_option maxHeartbeats 2000000 in
theorem t_X11_ahead (v1 : Int32) (v2 : Int32) (s : HS) {x : Int32} {t : HS} (hf : f_X11_ahead  v1 v2 s = some (x, t)) : Mt DDX11_ahead miX11_ahead [.ref 1, .int v1, .int v2] NF (hp s) (some (.int x)) NF (hp t) := by
  refine Mt.of (by decide +kernel) (Nat.le_refl _) (Nat.le_of_ble_eq_true rfl) ?_
  show Ev DDX11_ahead miX11_ahead NF (some (.int x)) NF (hp t) 0 NF [(0, .ref 1), (1, .int v1), (2, .int v2)] [] (hp s)
  unfold f_X11_ahead at hf
  refine e_aload_n dX11_ahead_0 0 rfl rfl (pc2 := 1) rfl ?_
  refine e_iload_n dX11_ahead_1 1 rfl rfl (pc2 := 2) rfl ?_
  obtain ⟨y1, hy1, hf⟩ := bnd_s hf
  refine e_callVs (t_X11_isPoured v1 s hy1) dX11_ahead_2 cv_X11_270 rfl so_1 rc_10 (by decide) (by first | exact Nat.le_of_ble_eq_true rfl | simp [rva_cat, vc_i, vc_r, vc_l, vc_n]) nn0 rfl (pc2 := 5) rfl ?_
  refine e_if_eq (tgt := 18) dX11_ahead_5 (by decide) (pc2 := 8) rfl (fun c2 => ?_) (fun c2 => ?_)
  · have hf := if_t c2 hf
    refine e_iconst (x := (-1)) dX11_ahead_18 (by decide) (pc2 := 19) rfl ?_
    cases hf
    exact e_iret rfl dX11_ahead_19
  · have hf := if_f c2 hf
    refine e_iload_n dX11_ahead_8 2 rfl rfl (pc2 := 9) rfl ?_
    refine e_if_lt (tgt := 18) dX11_ahead_9 (by decide) (pc2 := 12) rfl (fun c3 => ?_) (fun c3 => ?_)
    · have hf := if_t c3 hf
      refine e_iconst (x := (-1)) dX11_ahead_18 (by decide) (pc2 := 19) rfl ?_
      cases hf
      exact e_iret rfl dX11_ahead_19
    · have hf := if_f c3 hf
      refine e_iload_n dX11_ahead_12 2 rfl rfl (pc2 := 13) rfl ?_
      refine e_bipush (x := 12) dX11_ahead_13 (by decide) (pc2 := 15) rfl ?_
      refine e_icmp_le (tgt := 20) dX11_ahead_15 (by decide) (pc2 := 18) rfl (fun c4 => ?_) (fun c4 => ?_)
      · have hf := if_t c4 hf
        refine e_aload_n dX11_ahead_20 0 rfl rfl (pc2 := 21) rfl ?_
        refine e_iload_n dX11_ahead_21 1 rfl rfl (pc2 := 22) rfl ?_
        refine e_iload_n dX11_ahead_22 2 rfl rfl (pc2 := 23) rfl ?_
        obtain ⟨y5, s6, hy5, hf⟩ := bnd2_s hf
        refine e_callVs (t_X11_meanAhead v1 v2 s hy5) dX11_ahead_23 cv_X11_279 rfl so_1 rc_10 (by decide) (by first | exact Nat.le_of_ble_eq_true rfl | simp [rva_cat, vc_i, vc_r, vc_l, vc_n]) nn0 rfl (pc2 := 26) rfl ?_
        cases hf
        exact e_iret rfl dX11_ahead_26
      · have hf := if_f c4 hf
        refine e_iconst (x := (-1)) dX11_ahead_18 (by decide) (pc2 := 19) rfl ?_
        cases hf
        exact e_iret rfl dX11_ahead_19
abbrev DDX11_most : Nat := 7
def f_X11_most_l22b (v1 : Int32) (v2 : Int32) (v3 : Int32) (v4 : Int32) (k22 : Int32 → Int32 → Int32 → HS → Option (Int32 × HS)) (s : HS) : Option (Int32 × HS) :=
  (if 12 < v4 then some (v2, s) else bnd2 (f_X11_meanAhead v1 v4 s) fun y6 s7 => (if y6 ≤ v3 then ltb (v4 + 1) fun x9 => k22 v2 v3 x9 s7 else ltb (v4 + 1) fun x10 => k22 v4 y6 x10 s7))
set_option maxRecDepth 20000 in
set_option maxHeartbeats 2000000 in
theorem t_X11_most_l22b (v1 : Int32) (v2 : Int32) (v3 : Int32) (v4 : Int32) (s : HS) {x : Int32} {t : HS} (k22 : Int32 → Int32 → Int32 → HS → Option (Int32 × HS)) (hk22 : ∀ (a2 : Int32) (a3 : Int32) (a4 : Int32) (s : HS), k22 a2 a3 a4 s = some (x, t) → Ev DDX11_most miX11_most NF (some (.int x)) NF (hp t) 22 NF [(0, .ref 1), (1, .int v1), (2, .int a2), (3, .int a3), (4, .int a4)] [] (hp s)) (hf : f_X11_most_l22b v1 v2 v3 v4 k22 s = some (x, t)) : Ev DDX11_most miX11_most NF (some (.int x)) NF (hp t) 22 NF [(0, .ref 1), (1, .int v1), (2, .int v2), (3, .int v3), (4, .int v4)] [] (hp s) := by
  refine e_iload dX11_most_22 4 rfl (pc2 := 24) rfl ?_
  refine e_bipush (x := 12) dX11_most_24 (by decide) (pc2 := 26) rfl ?_
  refine e_icmp_gt (tgt := 56) dX11_most_26 (by decide) (pc2 := 29) rfl (fun c5 => ?_) (fun c5 => ?_)
  · have hf := if_t c5 hf
    refine e_iload_n dX11_most_56 2 rfl rfl (pc2 := 57) rfl ?_
    cases hf
    exact e_iret rfl dX11_most_57
  · have hf := if_f c5 hf
    refine e_aload_n dX11_most_29 0 rfl rfl (pc2 := 30) rfl ?_
    refine e_iload_n dX11_most_30 1 rfl rfl (pc2 := 31) rfl ?_
    refine e_iload dX11_most_31 4 rfl (pc2 := 33) rfl ?_
    obtain ⟨y6, s7, hy6, hf⟩ := bnd2_s hf
    refine e_callVs (t_X11_meanAhead v1 v4 s hy6) dX11_most_33 cv_X11_279 rfl so_1 rc_10 (by decide) (by first | exact Nat.le_of_ble_eq_true rfl | simp [rva_cat, vc_i, vc_r, vc_l, vc_n]) nn0 rfl (pc2 := 36) rfl ?_
    refine e_istore dX11_most_36 (by decide) rfl (ls' := [(0, .ref 1), (1, .int v1), (2, .int v2), (3, .int v3), (4, .int v4), (5, .int y6)]) [1, 2, 3, 4, 5, 0] rfl (pc2 := 38) rfl ?_
    refine e_iload dX11_most_38 5 rfl (pc2 := 40) rfl ?_
    refine e_iload_n dX11_most_40 3 rfl rfl (pc2 := 41) rfl ?_
    refine e_icmp_le (tgt := 50) dX11_most_41 (by decide) (pc2 := 44) rfl (fun c8 => ?_) (fun c8 => ?_)
    · have hf := if_t c8 hf
      obtain ⟨x9, ex9, hf⟩ := ltb_s hf
      refine e_iinc dX11_most_50 4 rfl (c9 := 1) (by decide) ex9.symm (by decide) (ls' := [(0, .ref 1), (1, .int v1), (2, .int v2), (3, .int v3), (4, .int x9)]) [1, 2, 3, 4, 0] rfl (pc2 := 53) rfl ?_
      refine e_goto (tgt := 22) dX11_most_53 (by decide) ?_
      exact hk22 v2 v3 x9 s7 hf
    · have hf := if_f c8 hf
      refine e_iload dX11_most_44 5 rfl (pc2 := 46) rfl ?_
      refine e_istore_n dX11_most_46 rfl (by decide) rfl (ls' := [(0, .ref 1), (1, .int v1), (3, .int y6), (4, .int v4)]) [1, 2, 0, 4] rfl (pc2 := 47) rfl ?_
      refine e_iload dX11_most_47 3 rfl (pc2 := 49) rfl ?_
      refine e_istore_n dX11_most_49 rfl (by decide) rfl (ls' := [(0, .ref 1), (1, .int v1), (2, .int v4), (3, .int y6), (4, .int v4)]) [1, 2, 0, 3, 4] rfl (pc2 := 50) rfl ?_
      obtain ⟨x10, ex10, hf⟩ := ltb_s hf
      refine e_iinc dX11_most_50 4 rfl (c9 := 1) (by decide) ex10.symm (by decide) (ls' := [(0, .ref 1), (1, .int v1), (2, .int v4), (3, .int y6), (4, .int x10)]) [1, 2, 3, 4, 0] rfl (pc2 := 53) rfl ?_
      refine e_goto (tgt := 22) dX11_most_53 (by decide) ?_
      exact hk22 v4 y6 x10 s7 hf
def f_X11_most_l22 (v1 : Int32) : Nat → Int32 → Int32 → Int32 → HS → Option (Int32 × HS)
  | 0, _, _, _, _ => none
  | n + 1, v2, v3, v4, s => f_X11_most_l22b v1 v2 v3 v4 (f_X11_most_l22 v1 n)  s
set_option maxRecDepth 20000 in
set_option maxHeartbeats 2000000 in
theorem t_X11_most_l22 (v1 : Int32) {x : Int32} {t : HS}  : ∀ (n : Nat) (v2 : Int32) (v3 : Int32) (v4 : Int32) (s : HS), f_X11_most_l22 v1 n v2 v3 v4 s = some (x, t) → Ev DDX11_most miX11_most NF (some (.int x)) NF (hp t) 22 NF [(0, .ref 1), (1, .int v1), (2, .int v2), (3, .int v3), (4, .int v4)] [] (hp s) := by
  intro n
  induction n with
  | zero =>
    intro v2 v3 v4 s hf
    have hf : none = some (x, t) := hf
    cases hf
  | succ n ih =>
    intro v2 v3 v4 s hf
    exact t_X11_most_l22b v1 v2 v3 v4  s _ ih  hf
def f_X11_most (v1 : Int32) (s : HS) : Option (Int32 × HS) :=
  bnd (f_X11_isPoured v1 s) fun y1 => (if y1 = 0 then some ((-1), s) else bnd2 (f_X11_meanAhead v1 0 s) fun y3 s4 => f_X11_most_l22 v1 FU 0 y3 1 s4)
set_option maxRecDepth 20000 in
set_option maxHeartbeats 2000000 in
theorem t_X11_most (v1 : Int32) (s : HS) {x : Int32} {t : HS} (hf : f_X11_most  v1 s = some (x, t)) : Mt DDX11_most miX11_most [.ref 1, .int v1] NF (hp s) (some (.int x)) NF (hp t) := by
  refine Mt.of (by decide +kernel) (Nat.le_refl _) (Nat.le_of_ble_eq_true rfl) ?_
  show Ev DDX11_most miX11_most NF (some (.int x)) NF (hp t) 0 NF [(0, .ref 1), (1, .int v1)] [] (hp s)
  unfold f_X11_most at hf
  refine e_aload_n dX11_most_0 0 rfl rfl (pc2 := 1) rfl ?_
  refine e_iload_n dX11_most_1 1 rfl rfl (pc2 := 2) rfl ?_
  obtain ⟨y1, hy1, hf⟩ := bnd_s hf
  refine e_callVs (t_X11_isPoured v1 s hy1) dX11_most_2 cv_X11_270 rfl so_1 rc_10 (by decide) (by first | exact Nat.le_of_ble_eq_true rfl | simp [rva_cat, vc_i, vc_r, vc_l, vc_n]) nn0 rfl (pc2 := 5) rfl ?_
  refine e_if_ne (tgt := 10) dX11_most_5 (by decide) (pc2 := 8) rfl (fun c2 => ?_) (fun c2 => ?_)
  · have hf := if_f c2 hf
    refine e_iconst (x := 0) dX11_most_10 (by decide) (pc2 := 11) rfl ?_
    refine e_istore_n dX11_most_11 rfl (by decide) rfl (ls' := [(0, .ref 1), (1, .int v1), (2, .int 0)]) [1, 2, 0] rfl (pc2 := 12) rfl ?_
    refine e_aload_n dX11_most_12 0 rfl rfl (pc2 := 13) rfl ?_
    refine e_iload_n dX11_most_13 1 rfl rfl (pc2 := 14) rfl ?_
    refine e_iconst (x := 0) dX11_most_14 (by decide) (pc2 := 15) rfl ?_
    obtain ⟨y3, s4, hy3, hf⟩ := bnd2_s hf
    refine e_callVs (t_X11_meanAhead v1 0 s hy3) dX11_most_15 cv_X11_279 rfl so_1 rc_10 (by decide) (by first | exact Nat.le_of_ble_eq_true rfl | simp [rva_cat, vc_i, vc_r, vc_l, vc_n]) nn0 rfl (pc2 := 18) rfl ?_
    refine e_istore_n dX11_most_18 rfl (by decide) rfl (ls' := [(0, .ref 1), (1, .int v1), (2, .int 0), (3, .int y3)]) [1, 2, 3, 0] rfl (pc2 := 19) rfl ?_
    refine e_iconst (x := 1) dX11_most_19 (by decide) (pc2 := 20) rfl ?_
    refine e_istore dX11_most_20 (by decide) rfl (ls' := [(0, .ref 1), (1, .int v1), (2, .int 0), (3, .int y3), (4, .int 1)]) [1, 2, 3, 4, 0] rfl (pc2 := 22) rfl ?_
    refine t_X11_most_l22 v1 FU 0 y3 1 s4 hf
  · have hf := if_t c2 hf
    refine e_iconst (x := (-1)) dX11_most_8 (by decide) (pc2 := 9) rfl ?_
    cases hf
    exact e_iret rfl dX11_most_9
abbrev DDX11_sell : Nat := 1
def f_X11_sell (v1 : Int32) (v2 : Int32) (s : HS) : Option (Int32 × HS) :=
  (if v1 < 0 then some (0, s) else (if 9 < v1 then some (0, s) else (if v2 < 0 then some (0, s) else (if 99 < v2 then some (0, s) else (if (s.1 64 8) < 10 then gd (inb ((s.1 64 8) * 2) 20) (ltb (sI s 67 (((s.1 64 8) * 2).toNatClampNeg) v1) fun s6 => gd (inb (((s6.1 64 8) * 2) + 1) 20) (ltb (sI s6 67 ((((s6.1 64 8) * 2) + 1).toNatClampNeg) v2) fun s8 => ltb (sI s8 64 8 ((s8.1 64 8) + 1)) fun s10 => some (1, s10))) else some (0, s))))))
set_option maxRecDepth 20000 in
set_option maxHeartbeats 2000000 in
theorem t_X11_sell (v1 : Int32) (v2 : Int32) (s : HS) {x : Int32} {t : HS} (hf : f_X11_sell  v1 v2 s = some (x, t)) : Mt DDX11_sell miX11_sell [.ref 1, .int v1, .int v2] NF (hp s) (some (.int x)) NF (hp t) := by
  refine Mt.of (by decide +kernel) (Nat.le_refl _) (Nat.le_of_ble_eq_true rfl) ?_
  show Ev DDX11_sell miX11_sell NF (some (.int x)) NF (hp t) 0 NF [(0, .ref 1), (1, .int v1), (2, .int v2)] [] (hp s)
  unfold f_X11_sell at hf
  refine e_iload_n dX11_sell_0 1 rfl rfl (pc2 := 1) rfl ?_
  refine e_if_lt (tgt := 32) dX11_sell_1 (by decide) (pc2 := 4) rfl (fun c1 => ?_) (fun c1 => ?_)
  · have hf := if_t c1 hf
    refine e_iconst (x := 0) dX11_sell_32 (by decide) (pc2 := 33) rfl ?_
    cases hf
    exact e_zret (by decide) rfl dX11_sell_33
  · have hf := if_f c1 hf
    refine e_iload_n dX11_sell_4 1 rfl rfl (pc2 := 5) rfl ?_
    refine e_bipush (x := 9) dX11_sell_5 (by decide) (pc2 := 7) rfl ?_
    refine e_icmp_gt (tgt := 32) dX11_sell_7 (by decide) (pc2 := 10) rfl (fun c2 => ?_) (fun c2 => ?_)
    · have hf := if_t c2 hf
      refine e_iconst (x := 0) dX11_sell_32 (by decide) (pc2 := 33) rfl ?_
      cases hf
      exact e_zret (by decide) rfl dX11_sell_33
    · have hf := if_f c2 hf
      refine e_iload_n dX11_sell_10 2 rfl rfl (pc2 := 11) rfl ?_
      refine e_if_lt (tgt := 32) dX11_sell_11 (by decide) (pc2 := 14) rfl (fun c3 => ?_) (fun c3 => ?_)
      · have hf := if_t c3 hf
        refine e_iconst (x := 0) dX11_sell_32 (by decide) (pc2 := 33) rfl ?_
        cases hf
        exact e_zret (by decide) rfl dX11_sell_33
      · have hf := if_f c3 hf
        refine e_iload_n dX11_sell_14 2 rfl rfl (pc2 := 15) rfl ?_
        refine e_bipush (x := 99) dX11_sell_15 (by decide) (pc2 := 17) rfl ?_
        refine e_icmp_gt (tgt := 32) dX11_sell_17 (by decide) (pc2 := 20) rfl (fun c4 => ?_) (fun c4 => ?_)
        · have hf := if_t c4 hf
          refine e_iconst (x := 0) dX11_sell_32 (by decide) (pc2 := 33) rfl ?_
          cases hf
          exact e_zret (by decide) rfl dX11_sell_33
        · have hf := if_f c4 hf
          refine e_aload_n dX11_sell_20 0 rfl rfl (pc2 := 21) rfl ?_
          refine e_getR (r := 64) fl_X11_64 dX11_sell_21 so_1 (rs_1_5 s.2.2) (by decide) (pc2 := 24) rfl ?_
          refine e_getI fl_X11_282 dX11_sell_24 (okX7_o (show okX7 64 = true from rfl)) (by decide) (pc2 := 27) rfl ?_
          refine e_bipush (x := 10) dX11_sell_27 (by decide) (pc2 := 29) rfl ?_
          refine e_icmp_lt (tgt := 34) dX11_sell_29 (by decide) (pc2 := 32) rfl (fun c5 => ?_) (fun c5 => ?_)
          · have hf := if_t c5 hf
            refine e_aload_n dX11_sell_34 0 rfl rfl (pc2 := 35) rfl ?_
            refine e_getR (r := 64) fl_X11_64 dX11_sell_35 so_1 (rs_1_5 s.2.2) (by decide) (pc2 := 38) rfl ?_
            refine e_getR (r := 67) fl_X11_285 dX11_sell_38 (okX7_o (show okX7 64 = true from rfl)) (rs_64_7 s.2.2) (by decide) (pc2 := 41) rfl ?_
            refine e_aload_n dX11_sell_41 0 rfl rfl (pc2 := 42) rfl ?_
            refine e_getR (r := 64) fl_X11_64 dX11_sell_42 so_1 (rs_1_5 s.2.2) (by decide) (pc2 := 45) rfl ?_
            refine e_getI fl_X11_282 dX11_sell_45 (okX7_o (show okX7 64 = true from rfl)) (by decide) (pc2 := 48) rfl ?_
            refine e_iconst (x := 2) dX11_sell_48 (by decide) (pc2 := 49) rfl ?_
            refine e_imul dX11_sell_49 (pc2 := 50) rfl ?_
            refine e_iload_n dX11_sell_50 1 rfl rfl (pc2 := 51) rfl ?_
            obtain ⟨g7, hf⟩ := gd_some hf
            obtain ⟨s6, es6, hf⟩ := ltb_s hf
            refine e_iast dX11_sell_51 sa_67 (inb_v g7) (h2 := hp s6) (by rw [es6]; rfl) (pc2 := 52) rfl ?_
            refine e_aload_n dX11_sell_52 0 rfl rfl (pc2 := 53) rfl ?_
            refine e_getR (r := 64) fl_X11_64 dX11_sell_53 so_1 (rs_1_5 s6.2.2) (by decide) (pc2 := 56) rfl ?_
            refine e_getR (r := 67) fl_X11_285 dX11_sell_56 (okX7_o (show okX7 64 = true from rfl)) (rs_64_7 s6.2.2) (by decide) (pc2 := 59) rfl ?_
            refine e_aload_n dX11_sell_59 0 rfl rfl (pc2 := 60) rfl ?_
            refine e_getR (r := 64) fl_X11_64 dX11_sell_60 so_1 (rs_1_5 s6.2.2) (by decide) (pc2 := 63) rfl ?_
            refine e_getI fl_X11_282 dX11_sell_63 (okX7_o (show okX7 64 = true from rfl)) (by decide) (pc2 := 66) rfl ?_
            refine e_iconst (x := 2) dX11_sell_66 (by decide) (pc2 := 67) rfl ?_
            refine e_imul dX11_sell_67 (pc2 := 68) rfl ?_
            refine e_iconst (x := 1) dX11_sell_68 (by decide) (pc2 := 69) rfl ?_
            refine e_iadd dX11_sell_69 (pc2 := 70) rfl ?_
            refine e_iload_n dX11_sell_70 2 rfl rfl (pc2 := 71) rfl ?_
            obtain ⟨g9, hf⟩ := gd_some hf
            obtain ⟨s8, es8, hf⟩ := ltb_s hf
            refine e_iast dX11_sell_71 sa_67 (inb_v g9) (h2 := hp s8) (by rw [es8]; rfl) (pc2 := 72) rfl ?_
            refine e_aload_n dX11_sell_72 0 rfl rfl (pc2 := 73) rfl ?_
            refine e_getR (r := 64) fl_X11_64 dX11_sell_73 so_1 (rs_1_5 s8.2.2) (by decide) (pc2 := 76) rfl ?_
            refine e_dup dX11_sell_76 rfl (pc2 := 77) rfl ?_
            refine e_getI fl_X11_282 dX11_sell_77 (okX7_o (show okX7 64 = true from rfl)) (by decide) (pc2 := 80) rfl ?_
            refine e_iconst (x := 1) dX11_sell_80 (by decide) (pc2 := 81) rfl ?_
            refine e_iadd dX11_sell_81 (pc2 := 82) rfl ?_
            obtain ⟨s10, es10, hf⟩ := ltb_s hf
            refine e_putI fl_X11_282 dX11_sell_82 (okX7_o (show okX7 64 = true from rfl)) fn_7_8 (h2 := hp s10) (by rw [es10]; rfl) (pc2 := 85) rfl ?_
            refine e_iconst (x := 1) dX11_sell_85 (by decide) (pc2 := 86) rfl ?_
            cases hf
            exact e_zret (by decide) rfl dX11_sell_86
          · have hf := if_f c5 hf
            refine e_iconst (x := 0) dX11_sell_32 (by decide) (pc2 := 33) rfl ?_
            cases hf
            exact e_zret (by decide) rfl dX11_sell_33
abbrev DDX11_laws : Nat := 2
def f_X11_laws_j85 (v1 : Int32) (v2 : Int32) (v5 : Int32) (v6 : Int32) (v7 : Int32) (w0 : Int32) (k35 : Int32 → Int32 → Int32 → Int32 → Option Int32) (s : HS) : Option Int32 :=
  ltb (v2 + 1) fun x10 => ltb (v6 + 1) fun x11 => k35 x10 v7 w0 x11
set_option maxRecDepth 20000 in
set_option maxHeartbeats 2000000 in
theorem t_X11_laws_j85 (v1 : Int32) (v2 : Int32) (v5 : Int32) (v6 : Int32) (v7 : Int32) (w0 : Int32) (s : HS) {x : Int32} (k35 : Int32 → Int32 → Int32 → Int32 → Option Int32) (hk35 : ∀ (a2 : Int32) (a3 : Int32) (a4 : Int32) (a6 : Int32), k35 a2 a3 a4 a6 = some x → Ev DDX11_laws miX11_laws NF (some (.int x)) NF (hp s) 35 NF [(0, .ref 1), (1, .int v1), (2, .int a2), (3, .int a3), (4, .int a4), (5, .int v5), (6, .int a6)] [] (hp s)) (hf : f_X11_laws_j85 v1 v2 v5 v6 v7 w0 k35 s = some x) : Ev DDX11_laws miX11_laws NF (some (.int x)) NF (hp s) 85 NF [(0, .ref 1), (1, .int v1), (2, .int v2), (5, .int v5), (6, .int v6), (7, .int v7)] [.int w0] (hp s) := by
  refine e_istore dX11_laws_85 (by decide) rfl (ls' := [(0, .ref 1), (1, .int v1), (2, .int v2), (4, .int w0), (5, .int v5), (6, .int v6), (7, .int v7)]) [1, 2, 3, 0, 4, 5, 6] rfl (pc2 := 87) rfl ?_
  refine e_iload dX11_laws_87 6 rfl (pc2 := 89) rfl ?_
  refine e_istore_n dX11_laws_89 rfl (by decide) rfl (ls' := [(0, .ref 1), (1, .int v1), (2, .int v2), (3, .int v7), (4, .int w0), (5, .int v5), (6, .int v6)]) [1, 2, 3, 0, 4, 5, 6] rfl (pc2 := 90) rfl ?_
  obtain ⟨x10, ex10, hf⟩ := ltb_s hf
  refine e_iinc dX11_laws_90 2 rfl (c9 := 1) (by decide) ex10.symm (by decide) (ls' := [(0, .ref 1), (1, .int v1), (2, .int x10), (3, .int v7), (4, .int w0), (5, .int v5), (6, .int v6)]) [1, 2, 0, 3, 4, 5, 6] rfl (pc2 := 93) rfl ?_
  obtain ⟨x11, ex11, hf⟩ := ltb_s hf
  refine e_iinc dX11_laws_93 6 rfl (c9 := 1) (by decide) ex11.symm (by decide) (ls' := [(0, .ref 1), (1, .int v1), (2, .int x10), (3, .int v7), (4, .int w0), (5, .int v5), (6, .int x11)]) [1, 2, 3, 4, 5, 6, 0] rfl (pc2 := 96) rfl ?_
  refine e_goto (tgt := 35) dX11_laws_96 (by decide) ?_
  exact hk35 x10 v7 w0 x11 hf
def f_X11_laws_j84 (v1 : Int32) (v2 : Int32) (v5 : Int32) (v6 : Int32) (v7 : Int32) (k35 : Int32 → Int32 → Int32 → Int32 → Option Int32) (s : HS) : Option Int32 :=
  f_X11_laws_j85 v1 v2 v5 v6 v7 0 k35 s
set_option maxRecDepth 20000 in
set_option maxHeartbeats 2000000 in
theorem t_X11_laws_j84 (v1 : Int32) (v2 : Int32) (v5 : Int32) (v6 : Int32) (v7 : Int32) (s : HS) {x : Int32} (k35 : Int32 → Int32 → Int32 → Int32 → Option Int32) (hk35 : ∀ (a2 : Int32) (a3 : Int32) (a4 : Int32) (a6 : Int32), k35 a2 a3 a4 a6 = some x → Ev DDX11_laws miX11_laws NF (some (.int x)) NF (hp s) 35 NF [(0, .ref 1), (1, .int v1), (2, .int a2), (3, .int a3), (4, .int a4), (5, .int v5), (6, .int a6)] [] (hp s)) (hf : f_X11_laws_j84 v1 v2 v5 v6 v7 k35 s = some x) : Ev DDX11_laws miX11_laws NF (some (.int x)) NF (hp s) 84 NF [(0, .ref 1), (1, .int v1), (2, .int v2), (5, .int v5), (6, .int v6), (7, .int v7)] [] (hp s) := by
  refine e_iconst (x := 0) dX11_laws_84 (by decide) (pc2 := 85) rfl ?_
  exact t_X11_laws_j85 v1 v2 v5 v6 v7 0 s _ hk35 hf
def f_X11_laws_j80 (v1 : Int32) (v2 : Int32) (v5 : Int32) (v6 : Int32) (v7 : Int32) (k35 : Int32 → Int32 → Int32 → Int32 → Option Int32) (s : HS) : Option Int32 :=
  f_X11_laws_j85 v1 v2 v5 v6 v7 1 k35 s
set_option maxRecDepth 20000 in
set_option maxHeartbeats 2000000 in
theorem t_X11_laws_j80 (v1 : Int32) (v2 : Int32) (v5 : Int32) (v6 : Int32) (v7 : Int32) (s : HS) {x : Int32} (k35 : Int32 → Int32 → Int32 → Int32 → Option Int32) (hk35 : ∀ (a2 : Int32) (a3 : Int32) (a4 : Int32) (a6 : Int32), k35 a2 a3 a4 a6 = some x → Ev DDX11_laws miX11_laws NF (some (.int x)) NF (hp s) 35 NF [(0, .ref 1), (1, .int v1), (2, .int a2), (3, .int a3), (4, .int a4), (5, .int v5), (6, .int a6)] [] (hp s)) (hf : f_X11_laws_j80 v1 v2 v5 v6 v7 k35 s = some x) : Ev DDX11_laws miX11_laws NF (some (.int x)) NF (hp s) 80 NF [(0, .ref 1), (1, .int v1), (2, .int v2), (5, .int v5), (6, .int v6), (7, .int v7)] [] (hp s) := by
  refine e_iconst (x := 1) dX11_laws_80 (by decide) (pc2 := 81) rfl ?_
  refine e_goto (tgt := 85) dX11_laws_81 (by decide) ?_
  exact t_X11_laws_j85 v1 v2 v5 v6 v7 1 s _ hk35 hf
def f_X11_laws_l35b (v1 : Int32) (v2 : Int32) (v3 : Int32) (v4 : Int32) (v5 : Int32) (v6 : Int32) (k35 : Int32 → Int32 → Int32 → Int32 → Option Int32) (k99 : Int32 → Int32 → Int32 → Option Int32) (s : HS) : Option Int32 :=
  (if 9 < v6 then k99 v2 v3 v4 else bnd (f_X7_isLaw 64 v5 v6 s) fun y5 => (if y5 = 0 then ltb (v6 + 1) fun x7 => k35 v2 v3 v4 x7 else ltb (v5 + (v6 * v1)) fun x8 => (if v4 = 0 then f_X11_laws_j84 v1 v2 v5 v6 x8 k35 s else (if v2 = 0 then f_X11_laws_j80 v1 v2 v5 v6 x8 k35 s else (if x8 = v3 then f_X11_laws_j80 v1 v2 v5 v6 x8 k35 s else f_X11_laws_j84 v1 v2 v5 v6 x8 k35 s)))))
set_option maxRecDepth 20000 in
set_option maxHeartbeats 2000000 in
theorem t_X11_laws_l35b (v1 : Int32) (v2 : Int32) (v3 : Int32) (v4 : Int32) (v5 : Int32) (v6 : Int32) (s : HS) {x : Int32} (k35 : Int32 → Int32 → Int32 → Int32 → Option Int32) (hk35 : ∀ (a2 : Int32) (a3 : Int32) (a4 : Int32) (a6 : Int32), k35 a2 a3 a4 a6 = some x → Ev DDX11_laws miX11_laws NF (some (.int x)) NF (hp s) 35 NF [(0, .ref 1), (1, .int v1), (2, .int a2), (3, .int a3), (4, .int a4), (5, .int v5), (6, .int a6)] [] (hp s)) (k99 : Int32 → Int32 → Int32 → Option Int32) (hk99 : ∀ (a2 : Int32) (a3 : Int32) (a4 : Int32), k99 a2 a3 a4 = some x → Ev DDX11_laws miX11_laws NF (some (.int x)) NF (hp s) 99 NF [(0, .ref 1), (1, .int v1), (2, .int a2), (3, .int a3), (4, .int a4), (5, .int v5)] [] (hp s)) (hf : f_X11_laws_l35b v1 v2 v3 v4 v5 v6 k35 k99 s = some x) : Ev DDX11_laws miX11_laws NF (some (.int x)) NF (hp s) 35 NF [(0, .ref 1), (1, .int v1), (2, .int v2), (3, .int v3), (4, .int v4), (5, .int v5), (6, .int v6)] [] (hp s) := by
  refine e_iload dX11_laws_35 6 rfl (pc2 := 37) rfl ?_
  refine e_bipush (x := 9) dX11_laws_37 (by decide) (pc2 := 39) rfl ?_
  refine e_icmp_gt (tgt := 99) dX11_laws_39 (by decide) (pc2 := 42) rfl (fun c4 => ?_) (fun c4 => ?_)
  · have hf := if_t c4 hf
    refine ev_sub [0, 1, 2, 3, 4, 5] rfl ?_
    exact hk99 v2 v3 v4 hf
  · have hf := if_f c4 hf
    refine e_aload_n dX11_laws_42 0 rfl rfl (pc2 := 43) rfl ?_
    refine e_getR (r := 64) fl_X11_64 dX11_laws_43 so_1 (rs_1_5 s.2.2) (by decide) (pc2 := 46) rfl ?_
    refine e_iload dX11_laws_46 5 rfl (pc2 := 48) rfl ?_
    refine e_iload dX11_laws_48 6 rfl (pc2 := 50) rfl ?_
    obtain ⟨y5, hy5, hf⟩ := bnd_s hf
    refine e_callVs (t_X7_isLaw 64 (show okX7 64 = true from rfl) v5 v6 s hy5) dX11_laws_50 cv_X11_288 rfl (okX7_o (show okX7 64 = true from rfl)) rc_7 (by decide) (by first | exact Nat.le_of_ble_eq_true rfl | simp [rva_cat, vc_i, vc_r, vc_l, vc_n]) nn0 rfl (pc2 := 53) rfl ?_
    refine e_if_eq (tgt := 93) dX11_laws_53 (by decide) (pc2 := 56) rfl (fun c6 => ?_) (fun c6 => ?_)
    · have hf := if_t c6 hf
      obtain ⟨x7, ex7, hf⟩ := ltb_s hf
      refine e_iinc dX11_laws_93 6 rfl (c9 := 1) (by decide) ex7.symm (by decide) (ls' := [(0, .ref 1), (1, .int v1), (2, .int v2), (3, .int v3), (4, .int v4), (5, .int v5), (6, .int x7)]) [1, 2, 3, 4, 5, 6, 0] rfl (pc2 := 96) rfl ?_
      refine e_goto (tgt := 35) dX11_laws_96 (by decide) ?_
      exact hk35 v2 v3 v4 x7 hf
    · have hf := if_f c6 hf
      refine e_iload dX11_laws_56 5 rfl (pc2 := 58) rfl ?_
      refine e_iload dX11_laws_58 6 rfl (pc2 := 60) rfl ?_
      refine e_iload_n dX11_laws_60 1 rfl rfl (pc2 := 61) rfl ?_
      refine e_imul dX11_laws_61 (pc2 := 62) rfl ?_
      refine e_iadd dX11_laws_62 (pc2 := 63) rfl ?_
      obtain ⟨x8, ex8, hf⟩ := ltb_s hf
      refine e_istore dX11_laws_63 (by decide) ex8.symm (ls' := [(0, .ref 1), (1, .int v1), (2, .int v2), (3, .int v3), (4, .int v4), (5, .int v5), (6, .int v6), (7, .int x8)]) [1, 2, 3, 4, 5, 6, 7, 0] rfl (pc2 := 65) rfl ?_
      refine e_iload dX11_laws_65 4 rfl (pc2 := 67) rfl ?_
      refine e_if_eq (tgt := 84) dX11_laws_67 (by decide) (pc2 := 70) rfl (fun c9 => ?_) (fun c9 => ?_)
      · have hf := if_t c9 hf
        refine ev_sub [0, 1, 2, 5, 6, 7] rfl ?_
        exact t_X11_laws_j84 v1 v2 v5 v6 x8 s _ hk35 hf
      · have hf := if_f c9 hf
        refine e_iload_n dX11_laws_70 2 rfl rfl (pc2 := 71) rfl ?_
        refine e_if_eq (tgt := 80) dX11_laws_71 (by decide) (pc2 := 74) rfl (fun c12 => ?_) (fun c12 => ?_)
        · have hf := if_t c12 hf
          refine ev_sub [0, 1, 2, 5, 6, 7] rfl ?_
          exact t_X11_laws_j80 v1 v2 v5 v6 x8 s _ hk35 hf
        · have hf := if_f c12 hf
          refine e_iload dX11_laws_74 7 rfl (pc2 := 76) rfl ?_
          refine e_iload_n dX11_laws_76 3 rfl rfl (pc2 := 77) rfl ?_
          refine e_icmp_ne (tgt := 84) dX11_laws_77 (by decide) (pc2 := 80) rfl (fun c13 => ?_) (fun c13 => ?_)
          · have hf := if_f c13 hf
            refine ev_sub [0, 1, 2, 5, 6, 7] rfl ?_
            exact t_X11_laws_j84 v1 v2 v5 v6 x8 s _ hk35 hf
          · have hf := if_t c13 hf
            refine ev_sub [0, 1, 2, 5, 6, 7] rfl ?_
            exact t_X11_laws_j80 v1 v2 v5 v6 x8 s _ hk35 hf
def f_X11_laws_l35 (v1 : Int32) (v5 : Int32) (k99 : Int32 → Int32 → Int32 → Option Int32) (s : HS) : Nat → Int32 → Int32 → Int32 → Int32 → Option Int32
  | 0, _, _, _, _ => none
  | n + 1, v2, v3, v4, v6 => f_X11_laws_l35b v1 v2 v3 v4 v5 v6 (f_X11_laws_l35 v1 v5 k99 s n) k99 s
set_option maxRecDepth 20000 in
set_option maxHeartbeats 2000000 in
theorem t_X11_laws_l35 (v1 : Int32) (v5 : Int32) (s : HS) {x : Int32} (k99 : Int32 → Int32 → Int32 → Option Int32) (hk99 : ∀ (a2 : Int32) (a3 : Int32) (a4 : Int32), k99 a2 a3 a4 = some x → Ev DDX11_laws miX11_laws NF (some (.int x)) NF (hp s) 99 NF [(0, .ref 1), (1, .int v1), (2, .int a2), (3, .int a3), (4, .int a4), (5, .int v5)] [] (hp s)) : ∀ (n : Nat) (v2 : Int32) (v3 : Int32) (v4 : Int32) (v6 : Int32), f_X11_laws_l35 v1 v5 k99 s n v2 v3 v4 v6 = some x → Ev DDX11_laws miX11_laws NF (some (.int x)) NF (hp s) 35 NF [(0, .ref 1), (1, .int v1), (2, .int v2), (3, .int v3), (4, .int v4), (5, .int v5), (6, .int v6)] [] (hp s) := by
  intro n
  induction n with
  | zero =>
    intro v2 v3 v4 v6 hf
    have hf : none = some x := hf
    cases hf
  | succ n ih =>
    intro v2 v3 v4 v6 hf
    exact t_X11_laws_l35b v1 v2 v3 v4 v5 v6  s _ ih _ hk99 hf
def f_X11_laws_l25b (v1 : Int32) (v2 : Int32) (v3 : Int32) (v4 : Int32) (v5 : Int32) (k25 : Int32 → Int32 → Int32 → Int32 → Option Int32) (k105 : Int32 → Int32 → Int32 → Option Int32) (s : HS) : Option Int32 :=
  (if 9 < v5 then k105 v2 v3 v4 else f_X11_laws_l35 v1 v5 (fun v14 v15 v16 => ltb (v5 + 1) fun x17 => k25 v14 v15 v16 x17) s FU v2 v3 v4 0)
set_option maxRecDepth 20000 in
set_option maxHeartbeats 2000000 in
theorem t_X11_laws_l25b (v1 : Int32) (v2 : Int32) (v3 : Int32) (v4 : Int32) (v5 : Int32) (s : HS) {x : Int32} (k25 : Int32 → Int32 → Int32 → Int32 → Option Int32) (hk25 : ∀ (a2 : Int32) (a3 : Int32) (a4 : Int32) (a5 : Int32), k25 a2 a3 a4 a5 = some x → Ev DDX11_laws miX11_laws NF (some (.int x)) NF (hp s) 25 NF [(0, .ref 1), (1, .int v1), (2, .int a2), (3, .int a3), (4, .int a4), (5, .int a5)] [] (hp s)) (k105 : Int32 → Int32 → Int32 → Option Int32) (hk105 : ∀ (a2 : Int32) (a3 : Int32) (a4 : Int32), k105 a2 a3 a4 = some x → Ev DDX11_laws miX11_laws NF (some (.int x)) NF (hp s) 105 NF [(1, .int v1), (2, .int a2), (3, .int a3), (4, .int a4)] [] (hp s)) (hf : f_X11_laws_l25b v1 v2 v3 v4 v5 k25 k105 s = some x) : Ev DDX11_laws miX11_laws NF (some (.int x)) NF (hp s) 25 NF [(0, .ref 1), (1, .int v1), (2, .int v2), (3, .int v3), (4, .int v4), (5, .int v5)] [] (hp s) := by
  refine e_iload dX11_laws_25 5 rfl (pc2 := 27) rfl ?_
  refine e_bipush (x := 9) dX11_laws_27 (by decide) (pc2 := 29) rfl ?_
  refine e_icmp_gt (tgt := 105) dX11_laws_29 (by decide) (pc2 := 32) rfl (fun c3 => ?_) (fun c3 => ?_)
  · have hf := if_t c3 hf
    refine ev_sub [1, 2, 3, 4] rfl ?_
    exact hk105 v2 v3 v4 hf
  · have hf := if_f c3 hf
    refine e_iconst (x := 0) dX11_laws_32 (by decide) (pc2 := 33) rfl ?_
    refine e_istore dX11_laws_33 (by decide) rfl (ls' := [(0, .ref 1), (1, .int v1), (2, .int v2), (3, .int v3), (4, .int v4), (5, .int v5), (6, .int 0)]) [1, 2, 3, 4, 5, 6, 0] rfl (pc2 := 35) rfl ?_
    refine t_X11_laws_l35 v1 v5 s _ ?_ FU v2 v3 v4 0 hf
    · intro v14 v15 v16 hf
      obtain ⟨x17, ex17, hf⟩ := ltb_s hf
      refine e_iinc dX11_laws_99 5 rfl (c9 := 1) (by decide) ex17.symm (by decide) (ls' := [(0, .ref 1), (1, .int v1), (2, .int v14), (3, .int v15), (4, .int v16), (5, .int x17)]) [1, 2, 3, 4, 5, 0] rfl (pc2 := 102) rfl ?_
      refine e_goto (tgt := 25) dX11_laws_102 (by decide) ?_
      exact hk25 v14 v15 v16 x17 hf
def f_X11_laws_l25 (v1 : Int32) (k105 : Int32 → Int32 → Int32 → Option Int32) (s : HS) : Nat → Int32 → Int32 → Int32 → Int32 → Option Int32
  | 0, _, _, _, _ => none
  | n + 1, v2, v3, v4, v5 => f_X11_laws_l25b v1 v2 v3 v4 v5 (f_X11_laws_l25 v1 k105 s n) k105 s
set_option maxRecDepth 20000 in
set_option maxHeartbeats 2000000 in
theorem t_X11_laws_l25 (v1 : Int32) (s : HS) {x : Int32} (k105 : Int32 → Int32 → Int32 → Option Int32) (hk105 : ∀ (a2 : Int32) (a3 : Int32) (a4 : Int32), k105 a2 a3 a4 = some x → Ev DDX11_laws miX11_laws NF (some (.int x)) NF (hp s) 105 NF [(1, .int v1), (2, .int a2), (3, .int a3), (4, .int a4)] [] (hp s)) : ∀ (n : Nat) (v2 : Int32) (v3 : Int32) (v4 : Int32) (v5 : Int32), f_X11_laws_l25 v1 k105 s n v2 v3 v4 v5 = some x → Ev DDX11_laws miX11_laws NF (some (.int x)) NF (hp s) 25 NF [(0, .ref 1), (1, .int v1), (2, .int v2), (3, .int v3), (4, .int v4), (5, .int v5)] [] (hp s) := by
  intro n
  induction n with
  | zero =>
    intro v2 v3 v4 v5 hf
    have hf : none = some x := hf
    cases hf
  | succ n ih =>
    intro v2 v3 v4 v5 hf
    exact t_X11_laws_l25b v1 v2 v3 v4 v5  s _ ih _ hk105 hf
def f_X11_laws (v1 : Int32) (s : HS) : Option Int32 :=
  (if v1 < (-1) then some (-2) else (if v1 ≤ 9 then f_X11_laws_l25 v1 (fun v18 v19 v20 => (if v1 = (-1) then some v18 else (if v20 = 0 then some (-2) else some v19))) s FU 0 (-2) 1 0 else some (-2)))
set_option maxRecDepth 20000 in
set_option maxHeartbeats 2000000 in
theorem t_X11_laws (v1 : Int32) (s : HS) {x : Int32} (hf : f_X11_laws  v1 s = some x) : Mt DDX11_laws miX11_laws [.ref 1, .int v1] NF (hp s) (some (.int x)) NF (hp s) := by
  refine Mt.of (by decide +kernel) (Nat.le_refl _) (Nat.le_of_ble_eq_true rfl) ?_
  show Ev DDX11_laws miX11_laws NF (some (.int x)) NF (hp s) 0 NF [(0, .ref 1), (1, .int v1)] [] (hp s)
  unfold f_X11_laws at hf
  refine e_iload_n dX11_laws_0 1 rfl rfl (pc2 := 1) rfl ?_
  refine e_iconst (x := (-1)) dX11_laws_1 (by decide) (pc2 := 2) rfl ?_
  refine e_icmp_lt (tgt := 11) dX11_laws_2 (by decide) (pc2 := 5) rfl (fun c1 => ?_) (fun c1 => ?_)
  · have hf := if_t c1 hf
    refine e_bipush (x := (-2)) dX11_laws_11 (by decide) (pc2 := 13) rfl ?_
    cases hf
    exact e_iret rfl dX11_laws_13
  · have hf := if_f c1 hf
    refine e_iload_n dX11_laws_5 1 rfl rfl (pc2 := 6) rfl ?_
    refine e_bipush (x := 9) dX11_laws_6 (by decide) (pc2 := 8) rfl ?_
    refine e_icmp_le (tgt := 14) dX11_laws_8 (by decide) (pc2 := 11) rfl (fun c2 => ?_) (fun c2 => ?_)
    · have hf := if_t c2 hf
      refine e_iconst (x := 0) dX11_laws_14 (by decide) (pc2 := 15) rfl ?_
      refine e_istore_n dX11_laws_15 rfl (by decide) rfl (ls' := [(0, .ref 1), (1, .int v1), (2, .int 0)]) [1, 2, 0] rfl (pc2 := 16) rfl ?_
      refine e_bipush (x := (-2)) dX11_laws_16 (by decide) (pc2 := 18) rfl ?_
      refine e_istore_n dX11_laws_18 rfl (by decide) rfl (ls' := [(0, .ref 1), (1, .int v1), (2, .int 0), (3, .int (-2))]) [1, 2, 3, 0] rfl (pc2 := 19) rfl ?_
      refine e_iconst (x := 1) dX11_laws_19 (by decide) (pc2 := 20) rfl ?_
      refine e_istore dX11_laws_20 (by decide) rfl (ls' := [(0, .ref 1), (1, .int v1), (2, .int 0), (3, .int (-2)), (4, .int 1)]) [1, 2, 3, 4, 0] rfl (pc2 := 22) rfl ?_
      refine e_iconst (x := 0) dX11_laws_22 (by decide) (pc2 := 23) rfl ?_
      refine e_istore dX11_laws_23 (by decide) rfl (ls' := [(0, .ref 1), (1, .int v1), (2, .int 0), (3, .int (-2)), (4, .int 1), (5, .int 0)]) [1, 2, 3, 4, 5, 0] rfl (pc2 := 25) rfl ?_
      refine t_X11_laws_l25 v1 s _ ?_ FU 0 (-2) 1 0 hf
      · intro v18 v19 v20 hf
        refine e_iload_n dX11_laws_105 0 rfl rfl (pc2 := 106) rfl ?_
        refine e_iconst (x := (-1)) dX11_laws_106 (by decide) (pc2 := 107) rfl ?_
        refine e_icmp_ne (tgt := 112) dX11_laws_107 (by decide) (pc2 := 110) rfl (fun c21 => ?_) (fun c21 => ?_)
        · have hf := if_f c21 hf
          refine e_iload dX11_laws_112 3 rfl (pc2 := 114) rfl ?_
          refine e_if_eq (tgt := 121) dX11_laws_114 (by decide) (pc2 := 117) rfl (fun c22 => ?_) (fun c22 => ?_)
          · have hf := if_t c22 hf
            refine e_bipush (x := (-2)) dX11_laws_121 (by decide) (pc2 := 123) rfl ?_
            cases hf
            exact e_iret rfl dX11_laws_123
          · have hf := if_f c22 hf
            refine e_iload_n dX11_laws_117 2 rfl rfl (pc2 := 118) rfl ?_
            refine e_goto (tgt := 123) dX11_laws_118 (by decide) ?_
            cases hf
            exact e_iret rfl dX11_laws_123
        · have hf := if_t c21 hf
          refine e_iload_n dX11_laws_110 1 rfl rfl (pc2 := 111) rfl ?_
          cases hf
          exact e_iret rfl dX11_laws_111
    · have hf := if_f c2 hf
      refine e_bipush (x := (-2)) dX11_laws_11 (by decide) (pc2 := 13) rfl ?_
      cases hf
      exact e_iret rfl dX11_laws_13
abbrev DDX11_see : Nat := 1
def f_X11_see (v1 : Int32) (v2 : Int32) (s : HS) : Option (Int32 × HS) :=
  (if v1 < 0 then some (0, s) else (if 900 < v1 then some (0, s) else (if v2 < 0 then some (0, s) else (if 6 < v2 then some (0, s) else (if (s.1 64 10) < 6 then gd (inb ((s.1 64 10) * 2) 12) (ltb (sI s 68 (((s.1 64 10) * 2).toNatClampNeg) v1) fun s6 => gd (inb (((s6.1 64 10) * 2) + 1) 12) (ltb (sI s6 68 ((((s6.1 64 10) * 2) + 1).toNatClampNeg) v2) fun s8 => ltb (sI s8 64 10 ((s8.1 64 10) + 1)) fun s10 => some (1, s10))) else some (0, s))))))
set_option maxRecDepth 20000 in
set_option maxHeartbeats 2000000 in
theorem t_X11_see (v1 : Int32) (v2 : Int32) (s : HS) {x : Int32} {t : HS} (hf : f_X11_see  v1 v2 s = some (x, t)) : Mt DDX11_see miX11_see [.ref 1, .int v1, .int v2] NF (hp s) (some (.int x)) NF (hp t) := by
  refine Mt.of (by decide +kernel) (Nat.le_refl _) (Nat.le_of_ble_eq_true rfl) ?_
  show Ev DDX11_see miX11_see NF (some (.int x)) NF (hp t) 0 NF [(0, .ref 1), (1, .int v1), (2, .int v2)] [] (hp s)
  unfold f_X11_see at hf
  refine e_iload_n dX11_see_0 1 rfl rfl (pc2 := 1) rfl ?_
  refine e_if_lt (tgt := 33) dX11_see_1 (by decide) (pc2 := 4) rfl (fun c1 => ?_) (fun c1 => ?_)
  · have hf := if_t c1 hf
    refine e_iconst (x := 0) dX11_see_33 (by decide) (pc2 := 34) rfl ?_
    cases hf
    exact e_zret (by decide) rfl dX11_see_34
  · have hf := if_f c1 hf
    refine e_iload_n dX11_see_4 1 rfl rfl (pc2 := 5) rfl ?_
    refine e_sipush (x := 900) dX11_see_5 (by decide) (pc2 := 8) rfl ?_
    refine e_icmp_gt (tgt := 33) dX11_see_8 (by decide) (pc2 := 11) rfl (fun c2 => ?_) (fun c2 => ?_)
    · have hf := if_t c2 hf
      refine e_iconst (x := 0) dX11_see_33 (by decide) (pc2 := 34) rfl ?_
      cases hf
      exact e_zret (by decide) rfl dX11_see_34
    · have hf := if_f c2 hf
      refine e_iload_n dX11_see_11 2 rfl rfl (pc2 := 12) rfl ?_
      refine e_if_lt (tgt := 33) dX11_see_12 (by decide) (pc2 := 15) rfl (fun c3 => ?_) (fun c3 => ?_)
      · have hf := if_t c3 hf
        refine e_iconst (x := 0) dX11_see_33 (by decide) (pc2 := 34) rfl ?_
        cases hf
        exact e_zret (by decide) rfl dX11_see_34
      · have hf := if_f c3 hf
        refine e_iload_n dX11_see_15 2 rfl rfl (pc2 := 16) rfl ?_
        refine e_bipush (x := 6) dX11_see_16 (by decide) (pc2 := 18) rfl ?_
        refine e_icmp_gt (tgt := 33) dX11_see_18 (by decide) (pc2 := 21) rfl (fun c4 => ?_) (fun c4 => ?_)
        · have hf := if_t c4 hf
          refine e_iconst (x := 0) dX11_see_33 (by decide) (pc2 := 34) rfl ?_
          cases hf
          exact e_zret (by decide) rfl dX11_see_34
        · have hf := if_f c4 hf
          refine e_aload_n dX11_see_21 0 rfl rfl (pc2 := 22) rfl ?_
          refine e_getR (r := 64) fl_X11_64 dX11_see_22 so_1 (rs_1_5 s.2.2) (by decide) (pc2 := 25) rfl ?_
          refine e_getI fl_X11_291 dX11_see_25 (okX7_o (show okX7 64 = true from rfl)) (by decide) (pc2 := 28) rfl ?_
          refine e_bipush (x := 6) dX11_see_28 (by decide) (pc2 := 30) rfl ?_
          refine e_icmp_lt (tgt := 35) dX11_see_30 (by decide) (pc2 := 33) rfl (fun c5 => ?_) (fun c5 => ?_)
          · have hf := if_t c5 hf
            refine e_aload_n dX11_see_35 0 rfl rfl (pc2 := 36) rfl ?_
            refine e_getR (r := 64) fl_X11_64 dX11_see_36 so_1 (rs_1_5 s.2.2) (by decide) (pc2 := 39) rfl ?_
            refine e_getR (r := 68) fl_X11_294 dX11_see_39 (okX7_o (show okX7 64 = true from rfl)) (rs_64_9 s.2.2) (by decide) (pc2 := 42) rfl ?_
            refine e_aload_n dX11_see_42 0 rfl rfl (pc2 := 43) rfl ?_
            refine e_getR (r := 64) fl_X11_64 dX11_see_43 so_1 (rs_1_5 s.2.2) (by decide) (pc2 := 46) rfl ?_
            refine e_getI fl_X11_291 dX11_see_46 (okX7_o (show okX7 64 = true from rfl)) (by decide) (pc2 := 49) rfl ?_
            refine e_iconst (x := 2) dX11_see_49 (by decide) (pc2 := 50) rfl ?_
            refine e_imul dX11_see_50 (pc2 := 51) rfl ?_
            refine e_iload_n dX11_see_51 1 rfl rfl (pc2 := 52) rfl ?_
            obtain ⟨g7, hf⟩ := gd_some hf
            obtain ⟨s6, es6, hf⟩ := ltb_s hf
            refine e_iast dX11_see_52 sa_68 (inb_v g7) (h2 := hp s6) (by rw [es6]; rfl) (pc2 := 53) rfl ?_
            refine e_aload_n dX11_see_53 0 rfl rfl (pc2 := 54) rfl ?_
            refine e_getR (r := 64) fl_X11_64 dX11_see_54 so_1 (rs_1_5 s6.2.2) (by decide) (pc2 := 57) rfl ?_
            refine e_getR (r := 68) fl_X11_294 dX11_see_57 (okX7_o (show okX7 64 = true from rfl)) (rs_64_9 s6.2.2) (by decide) (pc2 := 60) rfl ?_
            refine e_aload_n dX11_see_60 0 rfl rfl (pc2 := 61) rfl ?_
            refine e_getR (r := 64) fl_X11_64 dX11_see_61 so_1 (rs_1_5 s6.2.2) (by decide) (pc2 := 64) rfl ?_
            refine e_getI fl_X11_291 dX11_see_64 (okX7_o (show okX7 64 = true from rfl)) (by decide) (pc2 := 67) rfl ?_
            refine e_iconst (x := 2) dX11_see_67 (by decide) (pc2 := 68) rfl ?_
            refine e_imul dX11_see_68 (pc2 := 69) rfl ?_
            refine e_iconst (x := 1) dX11_see_69 (by decide) (pc2 := 70) rfl ?_
            refine e_iadd dX11_see_70 (pc2 := 71) rfl ?_
            refine e_iload_n dX11_see_71 2 rfl rfl (pc2 := 72) rfl ?_
            obtain ⟨g9, hf⟩ := gd_some hf
            obtain ⟨s8, es8, hf⟩ := ltb_s hf
            refine e_iast dX11_see_72 sa_68 (inb_v g9) (h2 := hp s8) (by rw [es8]; rfl) (pc2 := 73) rfl ?_
            refine e_aload_n dX11_see_73 0 rfl rfl (pc2 := 74) rfl ?_
            refine e_getR (r := 64) fl_X11_64 dX11_see_74 so_1 (rs_1_5 s8.2.2) (by decide) (pc2 := 77) rfl ?_
            refine e_dup dX11_see_77 rfl (pc2 := 78) rfl ?_
            refine e_getI fl_X11_291 dX11_see_78 (okX7_o (show okX7 64 = true from rfl)) (by decide) (pc2 := 81) rfl ?_
            refine e_iconst (x := 1) dX11_see_81 (by decide) (pc2 := 82) rfl ?_
            refine e_iadd dX11_see_82 (pc2 := 83) rfl ?_
            obtain ⟨s10, es10, hf⟩ := ltb_s hf
            refine e_putI fl_X11_291 dX11_see_83 (okX7_o (show okX7 64 = true from rfl)) fn_7_10 (h2 := hp s10) (by rw [es10]; rfl) (pc2 := 86) rfl ?_
            refine e_iconst (x := 1) dX11_see_86 (by decide) (pc2 := 87) rfl ?_
            cases hf
            exact e_zret (by decide) rfl dX11_see_87
          · have hf := if_f c5 hf
            refine e_iconst (x := 0) dX11_see_33 (by decide) (pc2 := 34) rfl ?_
            cases hf
            exact e_zret (by decide) rfl dX11_see_34
abbrev DDX11_was : Nat := 7
def f_X11_was_l19b (v1 : Int32) (v2 : Int32) (v3 : Int32) (v4 : Int32) (k19 : Int32 → Int32 → HS → Option (Int32 × HS)) (k92 : Int32 → HS → Option (Int32 × HS)) (s : HS) : Option (Int32 × HS) :=
  (if (s.1 64 10) ≤ v4 then k92 v3 s else gd (inb (v4 * 2) 12) (ltb ((s.1 68 (v4 * 2).toNatClampNeg) - (60 * v2)) fun x6 => (if v3 = 0 then ltb (v4 + 1) fun x8 => k19 0 x8 s else bnd (f_X6_servedBy x6 s) fun y9 => gd (inb ((v4 * 2) + 1) 12) ((if y9 = (s.1 68 ((v4 * 2) + 1).toNatClampNeg) then ltb (v4 + 1) fun x13 => k19 1 x13 s else ltb (v4 + 1) fun x12 => k19 0 x12 s)))))
set_option maxRecDepth 20000 in
set_option maxHeartbeats 2000000 in
theorem t_X11_was_l19b (v1 : Int32) (v2 : Int32) (v3 : Int32) (v4 : Int32) (s : HS) {x : Int32} {t : HS} (k19 : Int32 → Int32 → HS → Option (Int32 × HS)) (hk19 : ∀ (a3 : Int32) (a4 : Int32) (s : HS), k19 a3 a4 s = some (x, t) → Ev DDX11_was miX11_was NF (some (.int x)) NF (hp t) 19 NF [(0, .ref 1), (1, .int v1), (2, .int v2), (3, .int a3), (4, .int a4)] [] (hp s)) (k92 : Int32 → HS → Option (Int32 × HS)) (hk92 : ∀ (a3 : Int32) (s : HS), k92 a3 s = some (x, t) → Ev DDX11_was miX11_was NF (some (.int x)) NF (hp t) 92 NF [(0, .ref 1), (1, .int v1), (2, .int v2), (3, .int a3)] [] (hp s)) (hf : f_X11_was_l19b v1 v2 v3 v4 k19 k92 s = some (x, t)) : Ev DDX11_was miX11_was NF (some (.int x)) NF (hp t) 19 NF [(0, .ref 1), (1, .int v1), (2, .int v2), (3, .int v3), (4, .int v4)] [] (hp s) := by
  refine e_iload dX11_was_19 4 rfl (pc2 := 21) rfl ?_
  refine e_aload_n dX11_was_21 0 rfl rfl (pc2 := 22) rfl ?_
  refine e_getR (r := 64) fl_X11_64 dX11_was_22 so_1 (rs_1_5 s.2.2) (by decide) (pc2 := 25) rfl ?_
  refine e_getI fl_X11_291 dX11_was_25 (okX7_o (show okX7 64 = true from rfl)) (by decide) (pc2 := 28) rfl ?_
  refine e_icmp_ge (tgt := 92) dX11_was_28 (by decide) (pc2 := 31) rfl (fun c4 => ?_) (fun c4 => ?_)
  · have hf := if_t c4 hf
    refine ev_sub [0, 1, 2, 3] rfl ?_
    exact hk92 v3 s hf
  · have hf := if_f c4 hf
    refine e_aload_n dX11_was_31 0 rfl rfl (pc2 := 32) rfl ?_
    refine e_getR (r := 64) fl_X11_64 dX11_was_32 so_1 (rs_1_5 s.2.2) (by decide) (pc2 := 35) rfl ?_
    refine e_getR (r := 68) fl_X11_294 dX11_was_35 (okX7_o (show okX7 64 = true from rfl)) (rs_64_9 s.2.2) (by decide) (pc2 := 38) rfl ?_
    refine e_iload dX11_was_38 4 rfl (pc2 := 40) rfl ?_
    refine e_iconst (x := 2) dX11_was_40 (by decide) (pc2 := 41) rfl ?_
    refine e_imul dX11_was_41 (pc2 := 42) rfl ?_
    obtain ⟨g5, hf⟩ := gd_some hf
    refine e_iald dX11_was_42 sa_68 (inb_v g5) (pc2 := 43) rfl ?_
    refine e_bipush (x := 60) dX11_was_43 (by decide) (pc2 := 45) rfl ?_
    refine e_iload_n dX11_was_45 2 rfl rfl (pc2 := 46) rfl ?_
    refine e_imul dX11_was_46 (pc2 := 47) rfl ?_
    refine e_isub dX11_was_47 (pc2 := 48) rfl ?_
    obtain ⟨x6, ex6, hf⟩ := ltb_s hf
    refine e_istore dX11_was_48 (by decide) ex6.symm (ls' := [(0, .ref 1), (1, .int v1), (2, .int v2), (3, .int v3), (4, .int v4), (5, .int x6)]) [1, 2, 3, 4, 5, 0] rfl (pc2 := 50) rfl ?_
    refine e_iload_n dX11_was_50 3 rfl rfl (pc2 := 51) rfl ?_
    refine e_if_eq (tgt := 84) dX11_was_51 (by decide) (pc2 := 54) rfl (fun c7 => ?_) (fun c7 => ?_)
    · have hf := if_t c7 hf
      refine e_iconst (x := 0) dX11_was_84 (by decide) (pc2 := 85) rfl ?_
      refine e_istore_n dX11_was_85 rfl (by decide) rfl (ls' := [(0, .ref 1), (1, .int v1), (2, .int v2), (3, .int 0), (4, .int v4)]) [1, 2, 3, 0, 4] rfl (pc2 := 86) rfl ?_
      obtain ⟨x8, ex8, hf⟩ := ltb_s hf
      refine e_iinc dX11_was_86 4 rfl (c9 := 1) (by decide) ex8.symm (by decide) (ls' := [(0, .ref 1), (1, .int v1), (2, .int v2), (3, .int 0), (4, .int x8)]) [1, 2, 3, 4, 0] rfl (pc2 := 89) rfl ?_
      refine e_goto (tgt := 19) dX11_was_89 (by decide) ?_
      exact hk19 0 x8 s hf
    · have hf := if_f c7 hf
      refine e_aload_n dX11_was_54 0 rfl rfl (pc2 := 55) rfl ?_
      refine e_getR (r := 73) fl_X11_72 dX11_was_55 so_1 (rs_1_8 s.2.2) (by decide) (pc2 := 58) rfl ?_
      refine e_iload dX11_was_58 5 rfl (pc2 := 60) rfl ?_
      obtain ⟨y9, hy9, hf⟩ := bnd_s hf
      refine e_callVs (t_X6_servedBy x6 s hy9) dX11_was_60 cv_X11_222 rfl so_73 rc_6 (by decide) (by first | exact Nat.le_of_ble_eq_true rfl | simp [rva_cat, vc_i, vc_r, vc_l, vc_n]) nn0 rfl (pc2 := 63) rfl ?_
      refine e_aload_n dX11_was_63 0 rfl rfl (pc2 := 64) rfl ?_
      refine e_getR (r := 64) fl_X11_64 dX11_was_64 so_1 (rs_1_5 s.2.2) (by decide) (pc2 := 67) rfl ?_
      refine e_getR (r := 68) fl_X11_294 dX11_was_67 (okX7_o (show okX7 64 = true from rfl)) (rs_64_9 s.2.2) (by decide) (pc2 := 70) rfl ?_
      refine e_iload dX11_was_70 4 rfl (pc2 := 72) rfl ?_
      refine e_iconst (x := 2) dX11_was_72 (by decide) (pc2 := 73) rfl ?_
      refine e_imul dX11_was_73 (pc2 := 74) rfl ?_
      refine e_iconst (x := 1) dX11_was_74 (by decide) (pc2 := 75) rfl ?_
      refine e_iadd dX11_was_75 (pc2 := 76) rfl ?_
      obtain ⟨g10, hf⟩ := gd_some hf
      refine e_iald dX11_was_76 sa_68 (inb_v g10) (pc2 := 77) rfl ?_
      refine e_icmp_ne (tgt := 84) dX11_was_77 (by decide) (pc2 := 80) rfl (fun c11 => ?_) (fun c11 => ?_)
      · have hf := if_f c11 hf
        refine e_iconst (x := 0) dX11_was_84 (by decide) (pc2 := 85) rfl ?_
        refine e_istore_n dX11_was_85 rfl (by decide) rfl (ls' := [(0, .ref 1), (1, .int v1), (2, .int v2), (3, .int 0), (4, .int v4)]) [1, 2, 3, 0, 4] rfl (pc2 := 86) rfl ?_
        obtain ⟨x12, ex12, hf⟩ := ltb_s hf
        refine e_iinc dX11_was_86 4 rfl (c9 := 1) (by decide) ex12.symm (by decide) (ls' := [(0, .ref 1), (1, .int v1), (2, .int v2), (3, .int 0), (4, .int x12)]) [1, 2, 3, 4, 0] rfl (pc2 := 89) rfl ?_
        refine e_goto (tgt := 19) dX11_was_89 (by decide) ?_
        exact hk19 0 x12 s hf
      · have hf := if_t c11 hf
        refine e_iconst (x := 1) dX11_was_80 (by decide) (pc2 := 81) rfl ?_
        refine e_goto (tgt := 85) dX11_was_81 (by decide) ?_
        refine e_istore_n dX11_was_85 rfl (by decide) rfl (ls' := [(0, .ref 1), (1, .int v1), (2, .int v2), (3, .int 1), (4, .int v4)]) [1, 2, 3, 0, 4] rfl (pc2 := 86) rfl ?_
        obtain ⟨x13, ex13, hf⟩ := ltb_s hf
        refine e_iinc dX11_was_86 4 rfl (c9 := 1) (by decide) ex13.symm (by decide) (ls' := [(0, .ref 1), (1, .int v1), (2, .int v2), (3, .int 1), (4, .int x13)]) [1, 2, 3, 4, 0] rfl (pc2 := 89) rfl ?_
        refine e_goto (tgt := 19) dX11_was_89 (by decide) ?_
        exact hk19 1 x13 s hf
def f_X11_was_l19 (v1 : Int32) (v2 : Int32) (k92 : Int32 → HS → Option (Int32 × HS)) : Nat → Int32 → Int32 → HS → Option (Int32 × HS)
  | 0, _, _, _ => none
  | n + 1, v3, v4, s => f_X11_was_l19b v1 v2 v3 v4 (f_X11_was_l19 v1 v2 k92 n) k92 s
set_option maxRecDepth 20000 in
set_option maxHeartbeats 2000000 in
theorem t_X11_was_l19 (v1 : Int32) (v2 : Int32) {x : Int32} {t : HS} (k92 : Int32 → HS → Option (Int32 × HS)) (hk92 : ∀ (a3 : Int32) (s : HS), k92 a3 s = some (x, t) → Ev DDX11_was miX11_was NF (some (.int x)) NF (hp t) 92 NF [(0, .ref 1), (1, .int v1), (2, .int v2), (3, .int a3)] [] (hp s)) : ∀ (n : Nat) (v3 : Int32) (v4 : Int32) (s : HS), f_X11_was_l19 v1 v2 k92 n v3 v4 s = some (x, t) → Ev DDX11_was miX11_was NF (some (.int x)) NF (hp t) 19 NF [(0, .ref 1), (1, .int v1), (2, .int v2), (3, .int v3), (4, .int v4)] [] (hp s) := by
  intro n
  induction n with
  | zero =>
    intro v3 v4 s hf
    have hf : none = some (x, t) := hf
    cases hf
  | succ n ih =>
    intro v3 v4 s hf
    exact t_X11_was_l19b v1 v2 v3 v4  s _ ih _ hk92 hf
def f_X11_was_l8b (v1 : Int32) (v2 : Int32) (k8 : Int32 → Int32 → HS → Option (Int32 × HS)) (s : HS) : Option (Int32 × HS) :=
  (if 9 < v2 then some (v1, s) else f_X11_was_l19 v1 v2 (fun v14 s15 => (if v14 = 0 then ltb (v2 + 1) fun x17 => k8 v1 x17 s15 else ltb (v1 ||| ((1 : Int32) <<< (v2 &&& 31))) fun x18 => ltb (v2 + 1) fun x19 => k8 x18 x19 s15)) FU 1 0 s)
set_option maxRecDepth 20000 in
set_option maxHeartbeats 2000000 in
theorem t_X11_was_l8b (v1 : Int32) (v2 : Int32) (s : HS) {x : Int32} {t : HS} (k8 : Int32 → Int32 → HS → Option (Int32 × HS)) (hk8 : ∀ (a1 : Int32) (a2 : Int32) (s : HS), k8 a1 a2 s = some (x, t) → Ev DDX11_was miX11_was NF (some (.int x)) NF (hp t) 8 NF [(0, .ref 1), (1, .int a1), (2, .int a2)] [] (hp s)) (hf : f_X11_was_l8b v1 v2 k8 s = some (x, t)) : Ev DDX11_was miX11_was NF (some (.int x)) NF (hp t) 8 NF [(0, .ref 1), (1, .int v1), (2, .int v2)] [] (hp s) := by
  refine e_iload_n dX11_was_8 2 rfl rfl (pc2 := 9) rfl ?_
  refine e_bipush (x := 9) dX11_was_9 (by decide) (pc2 := 11) rfl ?_
  refine e_icmp_gt (tgt := 108) dX11_was_11 (by decide) (pc2 := 14) rfl (fun c3 => ?_) (fun c3 => ?_)
  · have hf := if_t c3 hf
    refine e_iload_n dX11_was_108 1 rfl rfl (pc2 := 109) rfl ?_
    cases hf
    exact e_iret rfl dX11_was_109
  · have hf := if_f c3 hf
    refine e_iconst (x := 1) dX11_was_14 (by decide) (pc2 := 15) rfl ?_
    refine e_istore_n dX11_was_15 rfl (by decide) rfl (ls' := [(0, .ref 1), (1, .int v1), (2, .int v2), (3, .int 1)]) [1, 2, 3, 0] rfl (pc2 := 16) rfl ?_
    refine e_iconst (x := 0) dX11_was_16 (by decide) (pc2 := 17) rfl ?_
    refine e_istore dX11_was_17 (by decide) rfl (ls' := [(0, .ref 1), (1, .int v1), (2, .int v2), (3, .int 1), (4, .int 0)]) [1, 2, 3, 4, 0] rfl (pc2 := 19) rfl ?_
    refine t_X11_was_l19 v1 v2 _ ?_ FU 1 0 s hf
    · intro v14 s15 hf
      refine e_iload_n dX11_was_92 3 rfl rfl (pc2 := 93) rfl ?_
      refine e_if_eq (tgt := 102) dX11_was_93 (by decide) (pc2 := 96) rfl (fun c16 => ?_) (fun c16 => ?_)
      · have hf := if_t c16 hf
        obtain ⟨x17, ex17, hf⟩ := ltb_s hf
        refine e_iinc dX11_was_102 2 rfl (c9 := 1) (by decide) ex17.symm (by decide) (ls' := [(0, .ref 1), (1, .int v1), (2, .int x17)]) [1, 2, 0] rfl (pc2 := 105) rfl ?_
        refine e_goto (tgt := 8) dX11_was_105 (by decide) ?_
        exact hk8 v1 x17 s15 hf
      · have hf := if_f c16 hf
        refine e_iload_n dX11_was_96 1 rfl rfl (pc2 := 97) rfl ?_
        refine e_iconst (x := 1) dX11_was_97 (by decide) (pc2 := 98) rfl ?_
        refine e_iload_n dX11_was_98 2 rfl rfl (pc2 := 99) rfl ?_
        refine e_ishl dX11_was_99 (pc2 := 100) rfl ?_
        refine e_ior dX11_was_100 (pc2 := 101) rfl ?_
        obtain ⟨x18, ex18, hf⟩ := ltb_s hf
        refine e_istore_n dX11_was_101 rfl (by decide) ex18.symm (ls' := [(0, .ref 1), (1, .int x18), (2, .int v2)]) [1, 0, 2] rfl (pc2 := 102) rfl ?_
        obtain ⟨x19, ex19, hf⟩ := ltb_s hf
        refine e_iinc dX11_was_102 2 rfl (c9 := 1) (by decide) ex19.symm (by decide) (ls' := [(0, .ref 1), (1, .int x18), (2, .int x19)]) [1, 2, 0] rfl (pc2 := 105) rfl ?_
        refine e_goto (tgt := 8) dX11_was_105 (by decide) ?_
        exact hk8 x18 x19 s15 hf
def f_X11_was_l8  : Nat → Int32 → Int32 → HS → Option (Int32 × HS)
  | 0, _, _, _ => none
  | n + 1, v1, v2, s => f_X11_was_l8b v1 v2 (f_X11_was_l8  n)  s
set_option maxRecDepth 20000 in
set_option maxHeartbeats 2000000 in
theorem t_X11_was_l8  {x : Int32} {t : HS}  : ∀ (n : Nat) (v1 : Int32) (v2 : Int32) (s : HS), f_X11_was_l8  n v1 v2 s = some (x, t) → Ev DDX11_was miX11_was NF (some (.int x)) NF (hp t) 8 NF [(0, .ref 1), (1, .int v1), (2, .int v2)] [] (hp s) := by
  intro n
  induction n with
  | zero =>
    intro v1 v2 s hf
    have hf : none = some (x, t) := hf
    cases hf
  | succ n ih =>
    intro v1 v2 s hf
    exact t_X11_was_l8b v1 v2  s _ ih  hf
def f_X11_was  (s : HS) : Option (Int32 × HS) :=
  bnd (f_X11_playNow s) fun s2 => f_X11_was_l8 FU 0 0 s2
set_option maxRecDepth 20000 in
set_option maxHeartbeats 2000000 in
theorem t_X11_was  (s : HS) {x : Int32} {t : HS} (hf : f_X11_was  s = some (x, t)) : Mt DDX11_was miX11_was [.ref 1] NF (hp s) (some (.int x)) NF (hp t) := by
  refine Mt.of (by decide +kernel) (Nat.le_refl _) (Nat.le_of_ble_eq_true rfl) ?_
  show Ev DDX11_was miX11_was NF (some (.int x)) NF (hp t) 0 NF [(0, .ref 1)] [] (hp s)
  unfold f_X11_was at hf
  refine e_aload_n dX11_was_0 0 rfl rfl (pc2 := 1) rfl ?_
  obtain ⟨s2, hy1, hf⟩ := bnd_s hf
  refine e_callVn (t_X11_playNow  s hy1) dX11_was_1 cv_X11_194 rfl so_1 rc_10 (by decide) (by first | exact Nat.le_of_ble_eq_true rfl | simp [rva_cat, vc_i, vc_r, vc_l, vc_n]) nn0 rfl (pc2 := 4) rfl ?_
  refine e_iconst (x := 0) dX11_was_4 (by decide) (pc2 := 5) rfl ?_
  refine e_istore_n dX11_was_5 rfl (by decide) rfl (ls' := [(0, .ref 1), (1, .int 0)]) [1, 0] rfl (pc2 := 6) rfl ?_
  refine e_iconst (x := 0) dX11_was_6 (by decide) (pc2 := 7) rfl ?_
  refine e_istore_n dX11_was_7 rfl (by decide) rfl (ls' := [(0, .ref 1), (1, .int 0), (2, .int 0)]) [1, 2, 0] rfl (pc2 := 8) rfl ?_
  refine t_X11_was_l8 FU 0 0 s2 hf
abbrev DDX11_years : Nat := 7
def f_X11_years_l71b (v2 : Int32) (v3 : Int32) (v4 : Int64) (v6 : Int32) (v7 : Int32) (v8 : Int32) (k71 : Int64 → Int32 → HS → Option (Int32 × HS)) (k149 : Int64 → HS → Option (Int32 × HS)) (s : HS) : Option (Int32 × HS) :=
  gd (okX4 (s.2.2.1)) ((if (s.1 (s.2.2.1) 14) ≤ v8 then k149 v4 s else ltb (((v4 * 1103515245) + 12345) - ((v4 * 1103515245) + 12345) / 2147483648 * 2147483648) fun x14 => gd (okX4 (s.2.2.1)) (gd (inb v8 6) ((if 0 ≤ (lg_cmp ((x14 / 65536) - (x14 / 65536) / 10 * 10) ((s.1 (Rf (Rf (s.2.2.1) 15) v8.toNatClampNeg) 3 : Int32).toInt64)) then ltb (v8 + 1) fun x18 => k71 x14 x18 s else ltb (sI s 28 0 ((s.1 28 0) ||| ((1 : Int32) <<< (v8 &&& 31)))) fun s19 => ltb (v8 + 1) fun x20 => k71 x14 x20 s19)))))
set_option maxRecDepth 20000 in
set_option maxHeartbeats 2000000 in
theorem t_X11_years_l71b (v2 : Int32) (v3 : Int32) (v4 : Int64) (v6 : Int32) (v7 : Int32) (v8 : Int32) (s : HS) {x : Int32} {t : HS} (k71 : Int64 → Int32 → HS → Option (Int32 × HS)) (hk71 : ∀ (a4 : Int64) (a8 : Int32) (s : HS), k71 a4 a8 s = some (x, t) → Ev DDX11_years miX11_years NF (some (.int x)) NF (hp t) 71 NF [(0, .ref 1), (2, .int v2), (3, .int v3), (4, .long a4), (6, .int v6), (7, .int v7), (8, .int a8)] [] (hp s)) (k149 : Int64 → HS → Option (Int32 × HS)) (hk149 : ∀ (a4 : Int64) (s : HS), k149 a4 s = some (x, t) → Ev DDX11_years miX11_years NF (some (.int x)) NF (hp t) 149 NF [(0, .ref 1), (2, .int v2), (3, .int v3), (4, .long a4), (6, .int v6), (7, .int v7)] [] (hp s)) (hf : f_X11_years_l71b v2 v3 v4 v6 v7 v8 k71 k149 s = some (x, t)) : Ev DDX11_years miX11_years NF (some (.int x)) NF (hp t) 71 NF [(0, .ref 1), (2, .int v2), (3, .int v3), (4, .long v4), (6, .int v6), (7, .int v7), (8, .int v8)] [] (hp s) := by
  refine e_iload dX11_years_71 6 rfl (pc2 := 73) rfl ?_
  refine e_aload_n dX11_years_73 0 rfl rfl (pc2 := 74) rfl ?_
  obtain ⟨g12, hf⟩ := gd_some hf
  refine e_getR (r := s.2.2.1) fl_X11_61 dX11_years_74 so_1 rfl (okX4_ne g12) (pc2 := 77) rfl ?_
  refine e_getI fl_X11_229 dX11_years_77 (okX4_o g12) (by decide) (pc2 := 80) rfl ?_
  refine e_icmp_ge (tgt := 149) dX11_years_80 (by decide) (pc2 := 83) rfl (fun c13 => ?_) (fun c13 => ?_)
  · have hf := if_t c13 hf
    refine ev_sub [0, 1, 2, 3, 4, 5] rfl ?_
    exact hk149 v4 s hf
  · have hf := if_f c13 hf
    refine e_lload dX11_years_83 3 rfl (pc2 := 85) rfl ?_
    refine e_ldc2 dX11_years_85 lk_X11_297 (pc2 := 88) rfl ?_
    refine e_lmul dX11_years_88 (pc2 := 89) rfl ?_
    refine e_ldc2 dX11_years_89 lk_X11_299 (pc2 := 92) rfl ?_
    refine e_ladd dX11_years_92 (pc2 := 93) rfl ?_
    refine e_ldc2 dX11_years_93 lk_X11_301 (pc2 := 96) rfl ?_
    refine e_lrem dX11_years_96 (by decide) (pc2 := 97) rfl ?_
    obtain ⟨x14, ex14, hf⟩ := ltb_s hf
    refine e_lstore dX11_years_97 (by decide) ex14.symm (ls' := [(0, .ref 1), (2, .int v2), (3, .int v3), (4, .long x14), (6, .int v6), (7, .int v7), (8, .int v8)]) [1, 2, 3, 0, 4, 5, 6] rfl (pc2 := 99) rfl ?_
    refine e_lload dX11_years_99 3 rfl (pc2 := 101) rfl ?_
    refine e_ldc2 dX11_years_101 lk_X11_303 (pc2 := 104) rfl ?_
    refine e_ldiv dX11_years_104 (by decide) (pc2 := 105) rfl ?_
    refine e_ldc2 dX11_years_105 lk_X11_305 (pc2 := 108) rfl ?_
    refine e_lrem dX11_years_108 (by decide) (pc2 := 109) rfl ?_
    refine e_aload_n dX11_years_109 0 rfl rfl (pc2 := 110) rfl ?_
    obtain ⟨g15, hf⟩ := gd_some hf
    refine e_getR (r := s.2.2.1) fl_X11_61 dX11_years_110 so_1 rfl (okX4_ne g15) (pc2 := 113) rfl ?_
    refine e_getR (r := Rf (s.2.2.1) 15) fl_X11_137 dX11_years_113 (okX4_o g15) (okX4_R g15) (isA_ne (okX4_buyer g15)) (pc2 := 116) rfl ?_
    refine e_iload dX11_years_116 6 rfl (pc2 := 118) rfl ?_
    obtain ⟨g16, hf⟩ := gd_some hf
    refine e_aald (r := Rf (Rf (s.2.2.1) 15) v8.toNatClampNeg) dX11_years_118 (okX4_buyer g15) (by decide) (inb_v g16) (Rs_na (q := s.2.2) (okX4_buyer g15) (by decide)) (okX0_ne (okX4_buyer_el g15 (inb_v g16))) (pc2 := 119) rfl ?_
    refine e_getI fl_X11_149 dX11_years_119 (okX0_o (okX4_buyer_el g15 (inb_v g16))) (by decide) (pc2 := 122) rfl ?_
    refine e_i2l dX11_years_122 (pc2 := 123) rfl ?_
    refine e_lcmp dX11_years_123 (pc2 := 124) rfl ?_
    refine e_if_ge (tgt := 143) dX11_years_124 (by decide) (pc2 := 127) rfl (fun c17 => ?_) (fun c17 => ?_)
    · have hf := if_t c17 hf
      obtain ⟨x18, ex18, hf⟩ := ltb_s hf
      refine e_iinc dX11_years_143 6 rfl (c9 := 1) (by decide) ex18.symm (by decide) (ls' := [(0, .ref 1), (2, .int v2), (3, .int v3), (4, .long x14), (6, .int v6), (7, .int v7), (8, .int x18)]) [1, 2, 3, 4, 5, 6, 0] rfl (pc2 := 146) rfl ?_
      refine e_goto (tgt := 71) dX11_years_146 (by decide) ?_
      exact hk71 x14 x18 s hf
    · have hf := if_f c17 hf
      refine e_aload_n dX11_years_127 0 rfl rfl (pc2 := 128) rfl ?_
      refine e_getR (r := 28) fl_X11_19 dX11_years_128 so_1 (rs_1_6 s.2.2) (by decide) (pc2 := 131) rfl ?_
      refine e_dup dX11_years_131 rfl (pc2 := 132) rfl ?_
      refine e_getI fl_X11_158 dX11_years_132 (okX7_o (show okX7 28 = true from rfl)) (by decide) (pc2 := 135) rfl ?_
      refine e_iconst (x := 1) dX11_years_135 (by decide) (pc2 := 136) rfl ?_
      refine e_iload dX11_years_136 6 rfl (pc2 := 138) rfl ?_
      refine e_ishl dX11_years_138 (pc2 := 139) rfl ?_
      refine e_ior dX11_years_139 (pc2 := 140) rfl ?_
      obtain ⟨s19, es19, hf⟩ := ltb_s hf
      refine e_putI fl_X11_158 dX11_years_140 (okX7_o (show okX7 28 = true from rfl)) fn_7_0 (h2 := hp s19) (by rw [es19]; rfl) (pc2 := 143) rfl ?_
      obtain ⟨x20, ex20, hf⟩ := ltb_s hf
      refine e_iinc dX11_years_143 6 rfl (c9 := 1) (by decide) ex20.symm (by decide) (ls' := [(0, .ref 1), (2, .int v2), (3, .int v3), (4, .long x14), (6, .int v6), (7, .int v7), (8, .int x20)]) [1, 2, 3, 4, 5, 6, 0] rfl (pc2 := 146) rfl ?_
      refine e_goto (tgt := 71) dX11_years_146 (by decide) ?_
      exact hk71 x14 x20 s19 hf
def f_X11_years_l71 (v2 : Int32) (v3 : Int32) (v6 : Int32) (v7 : Int32) (k149 : Int64 → HS → Option (Int32 × HS)) : Nat → Int64 → Int32 → HS → Option (Int32 × HS)
  | 0, _, _, _ => none
  | n + 1, v4, v8, s => f_X11_years_l71b v2 v3 v4 v6 v7 v8 (f_X11_years_l71 v2 v3 v6 v7 k149 n) k149 s
set_option maxRecDepth 20000 in
set_option maxHeartbeats 2000000 in
theorem t_X11_years_l71 (v2 : Int32) (v3 : Int32) (v6 : Int32) (v7 : Int32) {x : Int32} {t : HS} (k149 : Int64 → HS → Option (Int32 × HS)) (hk149 : ∀ (a4 : Int64) (s : HS), k149 a4 s = some (x, t) → Ev DDX11_years miX11_years NF (some (.int x)) NF (hp t) 149 NF [(0, .ref 1), (2, .int v2), (3, .int v3), (4, .long a4), (6, .int v6), (7, .int v7)] [] (hp s)) : ∀ (n : Nat) (v4 : Int64) (v8 : Int32) (s : HS), f_X11_years_l71 v2 v3 v6 v7 k149 n v4 v8 s = some (x, t) → Ev DDX11_years miX11_years NF (some (.int x)) NF (hp t) 71 NF [(0, .ref 1), (2, .int v2), (3, .int v3), (4, .long v4), (6, .int v6), (7, .int v7), (8, .int v8)] [] (hp s) := by
  intro n
  induction n with
  | zero =>
    intro v4 v8 s hf
    have hf : none = some (x, t) := hf
    cases hf
  | succ n ih =>
    intro v4 v8 s hf
    exact t_X11_years_l71b v2 v3 v4 v6 v7 v8  s _ ih _ hk149 hf
def f_X11_years_l54b (v2 : Int32) (v3 : Int32) (v4 : Int64) (v6 : Int32) (v7 : Int32) (k54 : Int64 → Int32 → Int32 → HS → Option (Int32 × HS)) (s : HS) : Option (Int32 × HS) :=
  (if v2 ≤ v7 then some (v6, s) else ltb (sI s 28 0 0) fun s11 => f_X11_years_l71 v2 v3 v6 v7 (fun v21 s22 => bnd (f_X11_playTrial s22) fun s24 => (if v3 = 0 then bnd (f_X6_paid s24) fun y32 => ltb (v6 + y32) fun x33 => ltb (v7 + 1) fun x34 => k54 v21 x33 x34 s24 else (if v3 = 1 then bnd (f_X6_drunkInAll s24) fun y29 => ltb (v6 + y29) fun x30 => ltb (v7 + 1) fun x31 => k54 v21 x30 x31 s24 else ltb (v6 + (f_J6_bitCount_0f7a4 (s24.1 73 15) s24)) fun x27 => ltb (v7 + 1) fun x28 => k54 v21 x27 x28 s24))) FU v4 0 s11)
set_option maxRecDepth 20000 in
set_option maxHeartbeats 2000000 in
theorem t_X11_years_l54b (v2 : Int32) (v3 : Int32) (v4 : Int64) (v6 : Int32) (v7 : Int32) (s : HS) {x : Int32} {t : HS} (k54 : Int64 → Int32 → Int32 → HS → Option (Int32 × HS)) (hk54 : ∀ (a4 : Int64) (a6 : Int32) (a7 : Int32) (s : HS), k54 a4 a6 a7 s = some (x, t) → Ev DDX11_years miX11_years NF (some (.int x)) NF (hp t) 54 NF [(0, .ref 1), (2, .int v2), (3, .int v3), (4, .long a4), (6, .int a6), (7, .int a7)] [] (hp s)) (hf : f_X11_years_l54b v2 v3 v4 v6 v7 k54 s = some (x, t)) : Ev DDX11_years miX11_years NF (some (.int x)) NF (hp t) 54 NF [(0, .ref 1), (2, .int v2), (3, .int v3), (4, .long v4), (6, .int v6), (7, .int v7)] [] (hp s) := by
  refine e_iload dX11_years_54 5 rfl (pc2 := 56) rfl ?_
  refine e_iload_n dX11_years_56 1 rfl rfl (pc2 := 57) rfl ?_
  refine e_icmp_ge (tgt := 203) dX11_years_57 (by decide) (pc2 := 60) rfl (fun c10 => ?_) (fun c10 => ?_)
  · have hf := if_t c10 hf
    refine e_iload dX11_years_203 4 rfl (pc2 := 205) rfl ?_
    cases hf
    exact e_iret rfl dX11_years_205
  · have hf := if_f c10 hf
    refine e_aload_n dX11_years_60 0 rfl rfl (pc2 := 61) rfl ?_
    refine e_getR (r := 28) fl_X11_19 dX11_years_61 so_1 (rs_1_6 s.2.2) (by decide) (pc2 := 64) rfl ?_
    refine e_iconst (x := 0) dX11_years_64 (by decide) (pc2 := 65) rfl ?_
    obtain ⟨s11, es11, hf⟩ := ltb_s hf
    refine e_putI fl_X11_158 dX11_years_65 (okX7_o (show okX7 28 = true from rfl)) fn_7_0 (h2 := hp s11) (by rw [es11]; rfl) (pc2 := 68) rfl ?_
    refine e_iconst (x := 0) dX11_years_68 (by decide) (pc2 := 69) rfl ?_
    refine e_istore dX11_years_69 (by decide) rfl (ls' := [(0, .ref 1), (2, .int v2), (3, .int v3), (4, .long v4), (6, .int v6), (7, .int v7), (8, .int 0)]) [1, 2, 3, 4, 5, 6, 0] rfl (pc2 := 71) rfl ?_
    refine t_X11_years_l71 v2 v3 v6 v7 _ ?_ FU v4 0 s11 hf
    · intro v21 s22 hf
      refine e_aload_n dX11_years_149 0 rfl rfl (pc2 := 150) rfl ?_
      obtain ⟨s24, hy23, hf⟩ := bnd_s hf
      refine e_callVn (t_X11_playTrial  s22 hy23) dX11_years_150 cv_X11_184 rfl so_1 rc_10 (by decide) (by first | exact Nat.le_of_ble_eq_true rfl | simp [rva_cat, vc_i, vc_r, vc_l, vc_n]) nn0 rfl (pc2 := 153) rfl ?_
      refine e_iload dX11_years_153 4 rfl (pc2 := 155) rfl ?_
      refine e_iload_n dX11_years_155 2 rfl rfl (pc2 := 156) rfl ?_
      refine e_if_ne (tgt := 169) dX11_years_156 (by decide) (pc2 := 159) rfl (fun c25 => ?_) (fun c25 => ?_)
      · have hf := if_f c25 hf
        refine e_iload_n dX11_years_169 2 rfl rfl (pc2 := 170) rfl ?_
        refine e_iconst (x := 1) dX11_years_170 (by decide) (pc2 := 171) rfl ?_
        refine e_icmp_ne (tgt := 184) dX11_years_171 (by decide) (pc2 := 174) rfl (fun c26 => ?_) (fun c26 => ?_)
        · have hf := if_f c26 hf
          refine e_aload_n dX11_years_184 0 rfl rfl (pc2 := 185) rfl ?_
          refine e_getR (r := 73) fl_X11_72 dX11_years_185 so_1 (rs_1_8 s24.2.2) (by decide) (pc2 := 188) rfl ?_
          refine e_getI fl_X11_209 dX11_years_188 so_73 (by decide) (pc2 := 191) rfl ?_
          refine e_callSs (t_J6_bitCount_0f7a4 (s24.1 73 15) s24 rfl) dX11_years_191 cs_X11_215 rfl (by decide) (by first | exact Nat.le_of_ble_eq_true rfl | simp [rva_cat, vc_i, vc_r, vc_l, vc_n]) nn0 rfl (pc2 := 194) rfl ?_
          refine e_iadd dX11_years_194 (pc2 := 195) rfl ?_
          obtain ⟨x27, ex27, hf⟩ := ltb_s hf
          refine e_istore dX11_years_195 (by decide) ex27.symm (ls' := [(0, .ref 1), (2, .int v2), (3, .int v3), (4, .long v21), (6, .int x27), (7, .int v7)]) [1, 2, 3, 4, 0, 5] rfl (pc2 := 197) rfl ?_
          obtain ⟨x28, ex28, hf⟩ := ltb_s hf
          refine e_iinc dX11_years_197 5 rfl (c9 := 1) (by decide) ex28.symm (by decide) (ls' := [(0, .ref 1), (2, .int v2), (3, .int v3), (4, .long v21), (6, .int x27), (7, .int x28)]) [1, 2, 3, 4, 5, 0] rfl (pc2 := 200) rfl ?_
          refine e_goto (tgt := 54) dX11_years_200 (by decide) ?_
          exact hk54 v21 x27 x28 s24 hf
        · have hf := if_t c26 hf
          refine e_aload_n dX11_years_174 0 rfl rfl (pc2 := 175) rfl ?_
          refine e_getR (r := 73) fl_X11_72 dX11_years_175 so_1 (rs_1_8 s24.2.2) (by decide) (pc2 := 178) rfl ?_
          obtain ⟨y29, hy29, hf⟩ := bnd_s hf
          refine e_callVs (t_X6_drunkInAll  s24 hy29) dX11_years_178 cv_X11_191 rfl so_73 rc_6 (by decide) (by first | exact Nat.le_of_ble_eq_true rfl | simp [rva_cat, vc_i, vc_r, vc_l, vc_n]) nn0 rfl (pc2 := 181) rfl ?_
          refine e_goto (tgt := 194) dX11_years_181 (by decide) ?_
          refine e_iadd dX11_years_194 (pc2 := 195) rfl ?_
          obtain ⟨x30, ex30, hf⟩ := ltb_s hf
          refine e_istore dX11_years_195 (by decide) ex30.symm (ls' := [(0, .ref 1), (2, .int v2), (3, .int v3), (4, .long v21), (6, .int x30), (7, .int v7)]) [1, 2, 3, 4, 0, 5] rfl (pc2 := 197) rfl ?_
          obtain ⟨x31, ex31, hf⟩ := ltb_s hf
          refine e_iinc dX11_years_197 5 rfl (c9 := 1) (by decide) ex31.symm (by decide) (ls' := [(0, .ref 1), (2, .int v2), (3, .int v3), (4, .long v21), (6, .int x30), (7, .int x31)]) [1, 2, 3, 4, 5, 0] rfl (pc2 := 200) rfl ?_
          refine e_goto (tgt := 54) dX11_years_200 (by decide) ?_
          exact hk54 v21 x30 x31 s24 hf
      · have hf := if_t c25 hf
        refine e_aload_n dX11_years_159 0 rfl rfl (pc2 := 160) rfl ?_
        refine e_getR (r := 73) fl_X11_72 dX11_years_160 so_1 (rs_1_8 s24.2.2) (by decide) (pc2 := 163) rfl ?_
        obtain ⟨y32, hy32, hf⟩ := bnd_s hf
        refine e_callVs (t_X6_paid  s24 hy32) dX11_years_163 cv_X11_187 rfl so_73 rc_6 (by decide) (by first | exact Nat.le_of_ble_eq_true rfl | simp [rva_cat, vc_i, vc_r, vc_l, vc_n]) nn0 rfl (pc2 := 166) rfl ?_
        refine e_goto (tgt := 194) dX11_years_166 (by decide) ?_
        refine e_iadd dX11_years_194 (pc2 := 195) rfl ?_
        obtain ⟨x33, ex33, hf⟩ := ltb_s hf
        refine e_istore dX11_years_195 (by decide) ex33.symm (ls' := [(0, .ref 1), (2, .int v2), (3, .int v3), (4, .long v21), (6, .int x33), (7, .int v7)]) [1, 2, 3, 4, 0, 5] rfl (pc2 := 197) rfl ?_
        obtain ⟨x34, ex34, hf⟩ := ltb_s hf
        refine e_iinc dX11_years_197 5 rfl (c9 := 1) (by decide) ex34.symm (by decide) (ls' := [(0, .ref 1), (2, .int v2), (3, .int v3), (4, .long v21), (6, .int x33), (7, .int x34)]) [1, 2, 3, 4, 5, 0] rfl (pc2 := 200) rfl ?_
        refine e_goto (tgt := 54) dX11_years_200 (by decide) ?_
        exact hk54 v21 x33 x34 s24 hf
def f_X11_years_l54 (v2 : Int32) (v3 : Int32) : Nat → Int64 → Int32 → Int32 → HS → Option (Int32 × HS)
  | 0, _, _, _, _ => none
  | n + 1, v4, v6, v7, s => f_X11_years_l54b v2 v3 v4 v6 v7 (f_X11_years_l54 v2 v3 n)  s
set_option maxRecDepth 20000 in
set_option maxHeartbeats 2000000 in
theorem t_X11_years_l54 (v2 : Int32) (v3 : Int32) {x : Int32} {t : HS}  : ∀ (n : Nat) (v4 : Int64) (v6 : Int32) (v7 : Int32) (s : HS), f_X11_years_l54 v2 v3 n v4 v6 v7 s = some (x, t) → Ev DDX11_years miX11_years NF (some (.int x)) NF (hp t) 54 NF [(0, .ref 1), (2, .int v2), (3, .int v3), (4, .long v4), (6, .int v6), (7, .int v7)] [] (hp s) := by
  intro n
  induction n with
  | zero =>
    intro v4 v6 v7 s hf
    have hf : none = some (x, t) := hf
    cases hf
  | succ n ih =>
    intro v4 v6 v7 s hf
    exact t_X11_years_l54b v2 v3 v4 v6 v7  s _ ih  hf
def f_X11_years (v1 : Int32) (v2 : Int32) (v3 : Int32) (s : HS) : Option (Int32 × HS) :=
  (if v1 < 0 then some ((-1), s) else (if 9999 < v1 then some ((-1), s) else (if v2 < 1 then some ((-1), s) else (if 60 < v2 then some ((-1), s) else (if v3 < 0 then some ((-1), s) else (if v3 ≤ 2 then bnd (f_X7_copyHand 28 64 s) fun s8 => ltb ((v1 : Int32).toInt64) fun x9 => f_X11_years_l54 v2 v3 FU x9 0 0 s8 else some ((-1), s)))))))
set_option maxRecDepth 20000 in
set_option maxHeartbeats 2000000 in
theorem t_X11_years (v1 : Int32) (v2 : Int32) (v3 : Int32) (s : HS) {x : Int32} {t : HS} (hf : f_X11_years  v1 v2 v3 s = some (x, t)) : Mt DDX11_years miX11_years [.ref 1, .int v1, .int v2, .int v3] NF (hp s) (some (.int x)) NF (hp t) := by
  refine Mt.of (by decide +kernel) (Nat.le_refl _) (Nat.le_of_ble_eq_true rfl) ?_
  show Ev DDX11_years miX11_years NF (some (.int x)) NF (hp t) 0 NF [(0, .ref 1), (1, .int v1), (2, .int v2), (3, .int v3)] [] (hp s)
  unfold f_X11_years at hf
  refine e_iload_n dX11_years_0 1 rfl rfl (pc2 := 1) rfl ?_
  refine e_if_lt (tgt := 31) dX11_years_1 (by decide) (pc2 := 4) rfl (fun c1 => ?_) (fun c1 => ?_)
  · have hf := if_t c1 hf
    refine e_iconst (x := (-1)) dX11_years_31 (by decide) (pc2 := 32) rfl ?_
    cases hf
    exact e_iret rfl dX11_years_32
  · have hf := if_f c1 hf
    refine e_iload_n dX11_years_4 1 rfl rfl (pc2 := 5) rfl ?_
    refine e_sipush (x := 9999) dX11_years_5 (by decide) (pc2 := 8) rfl ?_
    refine e_icmp_gt (tgt := 31) dX11_years_8 (by decide) (pc2 := 11) rfl (fun c2 => ?_) (fun c2 => ?_)
    · have hf := if_t c2 hf
      refine e_iconst (x := (-1)) dX11_years_31 (by decide) (pc2 := 32) rfl ?_
      cases hf
      exact e_iret rfl dX11_years_32
    · have hf := if_f c2 hf
      refine e_iload_n dX11_years_11 2 rfl rfl (pc2 := 12) rfl ?_
      refine e_iconst (x := 1) dX11_years_12 (by decide) (pc2 := 13) rfl ?_
      refine e_icmp_lt (tgt := 31) dX11_years_13 (by decide) (pc2 := 16) rfl (fun c3 => ?_) (fun c3 => ?_)
      · have hf := if_t c3 hf
        refine e_iconst (x := (-1)) dX11_years_31 (by decide) (pc2 := 32) rfl ?_
        cases hf
        exact e_iret rfl dX11_years_32
      · have hf := if_f c3 hf
        refine e_iload_n dX11_years_16 2 rfl rfl (pc2 := 17) rfl ?_
        refine e_bipush (x := 60) dX11_years_17 (by decide) (pc2 := 19) rfl ?_
        refine e_icmp_gt (tgt := 31) dX11_years_19 (by decide) (pc2 := 22) rfl (fun c4 => ?_) (fun c4 => ?_)
        · have hf := if_t c4 hf
          refine e_iconst (x := (-1)) dX11_years_31 (by decide) (pc2 := 32) rfl ?_
          cases hf
          exact e_iret rfl dX11_years_32
        · have hf := if_f c4 hf
          refine e_iload_n dX11_years_22 3 rfl rfl (pc2 := 23) rfl ?_
          refine e_if_lt (tgt := 31) dX11_years_23 (by decide) (pc2 := 26) rfl (fun c5 => ?_) (fun c5 => ?_)
          · have hf := if_t c5 hf
            refine e_iconst (x := (-1)) dX11_years_31 (by decide) (pc2 := 32) rfl ?_
            cases hf
            exact e_iret rfl dX11_years_32
          · have hf := if_f c5 hf
            refine e_iload_n dX11_years_26 3 rfl rfl (pc2 := 27) rfl ?_
            refine e_iconst (x := 2) dX11_years_27 (by decide) (pc2 := 28) rfl ?_
            refine e_icmp_le (tgt := 33) dX11_years_28 (by decide) (pc2 := 31) rfl (fun c6 => ?_) (fun c6 => ?_)
            · have hf := if_t c6 hf
              refine e_aload_n dX11_years_33 0 rfl rfl (pc2 := 34) rfl ?_
              refine e_getR (r := 28) fl_X11_19 dX11_years_34 so_1 (rs_1_6 s.2.2) (by decide) (pc2 := 37) rfl ?_
              refine e_aload_n dX11_years_37 0 rfl rfl (pc2 := 38) rfl ?_
              refine e_getR (r := 64) fl_X11_64 dX11_years_38 so_1 (rs_1_5 s.2.2) (by decide) (pc2 := 41) rfl ?_
              obtain ⟨s8, hy7, hf⟩ := bnd_s hf
              refine e_callVn (t_X7_copyHand 28 (show okX7 28 = true from rfl) 64 (show okX7 64 = true from rfl) s hy7) dX11_years_41 cv_X11_225 rfl (okX7_o (show okX7 28 = true from rfl)) rc_7 (by decide) (by first | exact Nat.le_of_ble_eq_true rfl | simp [rva_cat, vc_i, vc_r, vc_l, vc_n]) nn0 rfl (pc2 := 44) rfl ?_
              refine e_iload_n dX11_years_44 1 rfl rfl (pc2 := 45) rfl ?_
              refine e_i2l dX11_years_45 (pc2 := 46) rfl ?_
              obtain ⟨x9, ex9, hf⟩ := ltb_s hf
              refine e_lstore dX11_years_46 (by decide) ex9.symm (ls' := [(0, .ref 1), (2, .int v2), (3, .int v3), (4, .long x9)]) [1, 3, 4, 0] rfl (pc2 := 48) rfl ?_
              refine e_iconst (x := 0) dX11_years_48 (by decide) (pc2 := 49) rfl ?_
              refine e_istore dX11_years_49 (by decide) rfl (ls' := [(0, .ref 1), (2, .int v2), (3, .int v3), (4, .long x9), (6, .int 0)]) [1, 2, 3, 4, 0] rfl (pc2 := 51) rfl ?_
              refine e_iconst (x := 0) dX11_years_51 (by decide) (pc2 := 52) rfl ?_
              refine e_istore dX11_years_52 (by decide) rfl (ls' := [(0, .ref 1), (2, .int v2), (3, .int v3), (4, .long x9), (6, .int 0), (7, .int 0)]) [1, 2, 3, 4, 5, 0] rfl (pc2 := 54) rfl ?_
              refine t_X11_years_l54 v2 v3 FU x9 0 0 s8 hf
            · have hf := if_f c6 hf
              refine e_iconst (x := (-1)) dX11_years_31 (by decide) (pc2 := 32) rfl ?_
              cases hf
              exact e_iret rfl dX11_years_32
