abbrev DDX6_rankOf : Nat := 2
def f_X6_rankOf_l50b (v1 : Int32) (v2 : Int32) (v3 : Int32) (v4 : Int32) (v5 : Int32) (k50 : Int32 → Int32 → HS → Option (Int32 × HS)) (k100 : Int32 → HS → Option (Int32 × HS)) (s : HS) : Option (Int32 × HS) :=
  gd (okX4 (s.2.2.2.2.1)) ((if (s.1 (s.2.2.2.2.1) 14) ≤ v5 then k100 v4 s else (if (f_X6_wantsToo v1 v5 s) = 0 then ltb (v4 + 0) fun x9 => ltb (v5 + 1) fun x10 => k50 x9 x10 s else gd (okX4 (s.2.2.2.2.1)) (gd (inb v5 6) (ltb (v4 + (s.1 (Rf (Rf (s.2.2.2.2.1) 15) v5.toNatClampNeg) 6)) fun x13 => ltb (v5 + 1) fun x14 => k50 x13 x14 s)))))
set_option maxRecDepth 20000 in
set_option maxHeartbeats 2000000 in
theorem t_X6_rankOf_l50b (v1 : Int32) (v2 : Int32) (v3 : Int32) (v4 : Int32) (v5 : Int32) (s : HS) {x : Int32} {t : HS} (k50 : Int32 → Int32 → HS → Option (Int32 × HS)) (hk50 : ∀ (a4 : Int32) (a5 : Int32) (s : HS), k50 a4 a5 s = some (x, t) → Ev DDX6_rankOf miX6_rankOf NF (some (.int x)) NF (hp t) 50 NF [(0, .ref 73), (1, .int v1), (2, .int v2), (3, .int v3), (4, .int a4), (5, .int a5)] [] (hp s)) (k100 : Int32 → HS → Option (Int32 × HS)) (hk100 : ∀ (a4 : Int32) (s : HS), k100 a4 s = some (x, t) → Ev DDX6_rankOf miX6_rankOf NF (some (.int x)) NF (hp t) 100 NF [(0, .ref 73), (1, .int v1), (2, .int v2), (3, .int v3), (4, .int a4)] [] (hp s)) (hf : f_X6_rankOf_l50b v1 v2 v3 v4 v5 k50 k100 s = some (x, t)) : Ev DDX6_rankOf miX6_rankOf NF (some (.int x)) NF (hp t) 50 NF [(0, .ref 73), (1, .int v1), (2, .int v2), (3, .int v3), (4, .int v4), (5, .int v5)] [] (hp s) := by
  refine e_iload dX6_rankOf_50 5 rfl (pc2 := 52) rfl ?_
  refine e_aload_n dX6_rankOf_52 0 rfl rfl (pc2 := 53) rfl ?_
  obtain ⟨g6, hf⟩ := gd_some hf
  refine e_getR (r := s.2.2.2.2.1) fl_X6_33 dX6_rankOf_53 so_73 rfl (okX4_ne g6) (pc2 := 56) rfl ?_
  refine e_getI fl_X6_76 dX6_rankOf_56 (okX4_o g6) (by decide) (pc2 := 59) rfl ?_
  refine e_icmp_ge (tgt := 100) dX6_rankOf_59 (by decide) (pc2 := 62) rfl (fun c7 => ?_) (fun c7 => ?_)
  · have hf := if_t c7 hf
    refine ev_sub [0, 1, 2, 3, 4] rfl ?_
    exact hk100 v4 s hf
  · have hf := if_f c7 hf
    refine e_iload dX6_rankOf_62 4 rfl (pc2 := 64) rfl ?_
    refine e_aload_n dX6_rankOf_64 0 rfl rfl (pc2 := 65) rfl ?_
    refine e_iload_n dX6_rankOf_65 1 rfl rfl (pc2 := 66) rfl ?_
    refine e_iload dX6_rankOf_66 5 rfl (pc2 := 68) rfl ?_
    refine e_callVs (t_X6_wantsToo v1 v5 s rfl) dX6_rankOf_68 cv_X6_137 rfl so_73 rc_6 (by decide) (by first | exact Nat.le_of_ble_eq_true rfl | simp [rva_cat, vc_i, vc_r, vc_l, vc_n]) nn0 rfl (pc2 := 71) rfl ?_
    refine e_if_eq (tgt := 90) dX6_rankOf_71 (by decide) (pc2 := 74) rfl (fun c8 => ?_) (fun c8 => ?_)
    · have hf := if_t c8 hf
      refine e_iconst (x := 0) dX6_rankOf_90 (by decide) (pc2 := 91) rfl ?_
      refine e_iadd dX6_rankOf_91 (pc2 := 92) rfl ?_
      obtain ⟨x9, ex9, hf⟩ := ltb_s hf
      refine e_istore dX6_rankOf_92 (by decide) ex9.symm (ls' := [(0, .ref 73), (1, .int v1), (2, .int v2), (3, .int v3), (4, .int x9), (5, .int v5)]) [1, 2, 3, 4, 0, 5] rfl (pc2 := 94) rfl ?_
      obtain ⟨x10, ex10, hf⟩ := ltb_s hf
      refine e_iinc dX6_rankOf_94 5 rfl (c9 := 1) (by decide) ex10.symm (by decide) (ls' := [(0, .ref 73), (1, .int v1), (2, .int v2), (3, .int v3), (4, .int x9), (5, .int x10)]) [1, 2, 3, 4, 5, 0] rfl (pc2 := 97) rfl ?_
      refine e_goto (tgt := 50) dX6_rankOf_97 (by decide) ?_
      exact hk50 x9 x10 s hf
    · have hf := if_f c8 hf
      refine e_aload_n dX6_rankOf_74 0 rfl rfl (pc2 := 75) rfl ?_
      obtain ⟨g11, hf⟩ := gd_some hf
      refine e_getR (r := s.2.2.2.2.1) fl_X6_33 dX6_rankOf_75 so_73 rfl (okX4_ne g11) (pc2 := 78) rfl ?_
      refine e_getR (r := Rf (s.2.2.2.2.1) 15) fl_X6_104 dX6_rankOf_78 (okX4_o g11) (okX4_R g11) (isA_ne (okX4_buyer g11)) (pc2 := 81) rfl ?_
      refine e_iload dX6_rankOf_81 5 rfl (pc2 := 83) rfl ?_
      obtain ⟨g12, hf⟩ := gd_some hf
      refine e_aald (r := Rf (Rf (s.2.2.2.2.1) 15) v5.toNatClampNeg) dX6_rankOf_83 (okX4_buyer g11) (by decide) (inb_v g12) (Rs_na (q := s.2.2) (okX4_buyer g11) (by decide)) (okX0_ne (okX4_buyer_el g11 (inb_v g12))) (pc2 := 84) rfl ?_
      refine e_getI fl_X6_141 dX6_rankOf_84 (okX0_o (okX4_buyer_el g11 (inb_v g12))) (by decide) (pc2 := 87) rfl ?_
      refine e_goto (tgt := 91) dX6_rankOf_87 (by decide) ?_
      refine e_iadd dX6_rankOf_91 (pc2 := 92) rfl ?_
      obtain ⟨x13, ex13, hf⟩ := ltb_s hf
      refine e_istore dX6_rankOf_92 (by decide) ex13.symm (ls' := [(0, .ref 73), (1, .int v1), (2, .int v2), (3, .int v3), (4, .int x13), (5, .int v5)]) [1, 2, 3, 4, 0, 5] rfl (pc2 := 94) rfl ?_
      obtain ⟨x14, ex14, hf⟩ := ltb_s hf
      refine e_iinc dX6_rankOf_94 5 rfl (c9 := 1) (by decide) ex14.symm (by decide) (ls' := [(0, .ref 73), (1, .int v1), (2, .int v2), (3, .int v3), (4, .int x13), (5, .int x14)]) [1, 2, 3, 4, 5, 0] rfl (pc2 := 97) rfl ?_
      refine e_goto (tgt := 50) dX6_rankOf_97 (by decide) ?_
      exact hk50 x13 x14 s hf
def f_X6_rankOf_l50 (v1 : Int32) (v2 : Int32) (v3 : Int32) (k100 : Int32 → HS → Option (Int32 × HS)) : Nat → Int32 → Int32 → HS → Option (Int32 × HS)
  | 0, _, _, _ => none
  | n + 1, v4, v5, s => f_X6_rankOf_l50b v1 v2 v3 v4 v5 (f_X6_rankOf_l50 v1 v2 v3 k100 n) k100 s
set_option maxRecDepth 20000 in
set_option maxHeartbeats 2000000 in
theorem t_X6_rankOf_l50 (v1 : Int32) (v2 : Int32) (v3 : Int32) {x : Int32} {t : HS} (k100 : Int32 → HS → Option (Int32 × HS)) (hk100 : ∀ (a4 : Int32) (s : HS), k100 a4 s = some (x, t) → Ev DDX6_rankOf miX6_rankOf NF (some (.int x)) NF (hp t) 100 NF [(0, .ref 73), (1, .int v1), (2, .int v2), (3, .int v3), (4, .int a4)] [] (hp s)) : ∀ (n : Nat) (v4 : Int32) (v5 : Int32) (s : HS), f_X6_rankOf_l50 v1 v2 v3 k100 n v4 v5 s = some (x, t) → Ev DDX6_rankOf miX6_rankOf NF (some (.int x)) NF (hp t) 50 NF [(0, .ref 73), (1, .int v1), (2, .int v2), (3, .int v3), (4, .int v4), (5, .int v5)] [] (hp s) := by
  intro n
  induction n with
  | zero =>
    intro v4 v5 s hf
    have hf : none = some (x, t) := hf
    cases hf
  | succ n ih =>
    intro v4 v5 s hf
    exact t_X6_rankOf_l50b v1 v2 v3 v4 v5  s _ ih _ hk100 hf
def f_X6_rankOf_j21 (v1 : Int32) (v2 : Int32) (w0 : Int32) (s : HS) : Option (Int32 × HS) :=
  (if (s.1 73 2) = 1 then some (0, s) else (if (s.1 73 2) = 2 then some (1 - w0, s) else f_X6_rankOf_l50 v1 v2 w0 (fun v15 s16 => gd (okX4 (s16.2.2.2.2.1)) (gd (okX4 (s16.2.2.2.2.1)) (gd (okX7 (s16.2.2.2.2.2.1)) (bnd (f_X4_farOf (s16.2.2.2.2.1) v1 (s16.1 (s16.2.2.2.2.2.1) 2) s16) fun y20 => gd (inb v1 6) (bnd2 (f_X2_value (Rf (s16.2.2.2.2.1) 8) y20 (v2 - (s16.1 74 v1.toNatClampNeg)) w0 v15 s16) fun y22 s23 => some (y22, s23)))))) FU 0 0 s))
set_option maxRecDepth 20000 in
set_option maxHeartbeats 2000000 in
theorem t_X6_rankOf_j21 (v1 : Int32) (v2 : Int32) (w0 : Int32) (s : HS) {x : Int32} {t : HS}  (hf : f_X6_rankOf_j21 v1 v2 w0 s = some (x, t)) : Ev DDX6_rankOf miX6_rankOf NF (some (.int x)) NF (hp t) 21 NF [(0, .ref 73), (1, .int v1), (2, .int v2)] [.int w0] (hp s) := by
  refine e_istore_n dX6_rankOf_21 rfl (by decide) rfl (ls' := [(0, .ref 73), (1, .int v1), (2, .int v2), (3, .int w0)]) [1, 2, 3, 0] rfl (pc2 := 22) rfl ?_
  refine e_aload_n dX6_rankOf_22 0 rfl rfl (pc2 := 23) rfl ?_
  refine e_getI fl_X6_41 dX6_rankOf_23 so_73 (by decide) (pc2 := 26) rfl ?_
  refine e_iconst (x := 1) dX6_rankOf_26 (by decide) (pc2 := 27) rfl ?_
  refine e_icmp_ne (tgt := 32) dX6_rankOf_27 (by decide) (pc2 := 30) rfl (fun c4 => ?_) (fun c4 => ?_)
  · have hf := if_f c4 hf
    refine e_aload_n dX6_rankOf_32 0 rfl rfl (pc2 := 33) rfl ?_
    refine e_getI fl_X6_41 dX6_rankOf_33 so_73 (by decide) (pc2 := 36) rfl ?_
    refine e_iconst (x := 2) dX6_rankOf_36 (by decide) (pc2 := 37) rfl ?_
    refine e_icmp_ne (tgt := 44) dX6_rankOf_37 (by decide) (pc2 := 40) rfl (fun c5 => ?_) (fun c5 => ?_)
    · have hf := if_f c5 hf
      refine e_iconst (x := 0) dX6_rankOf_44 (by decide) (pc2 := 45) rfl ?_
      refine e_istore dX6_rankOf_45 (by decide) rfl (ls' := [(0, .ref 73), (1, .int v1), (2, .int v2), (3, .int w0), (4, .int 0)]) [1, 2, 3, 4, 0] rfl (pc2 := 47) rfl ?_
      refine e_iconst (x := 0) dX6_rankOf_47 (by decide) (pc2 := 48) rfl ?_
      refine e_istore dX6_rankOf_48 (by decide) rfl (ls' := [(0, .ref 73), (1, .int v1), (2, .int v2), (3, .int w0), (4, .int 0), (5, .int 0)]) [1, 2, 3, 4, 5, 0] rfl (pc2 := 50) rfl ?_
      refine t_X6_rankOf_l50 v1 v2 w0 _ ?_ FU 0 0 s hf
      · intro v15 s16 hf
        refine e_aload_n dX6_rankOf_100 0 rfl rfl (pc2 := 101) rfl ?_
        obtain ⟨g17, hf⟩ := gd_some hf
        refine e_getR (r := s16.2.2.2.2.1) fl_X6_33 dX6_rankOf_101 so_73 rfl (okX4_ne g17) (pc2 := 104) rfl ?_
        refine e_getR (r := Rf (s16.2.2.2.2.1) 8) fl_X6_144 dX6_rankOf_104 (okX4_o g17) (okX4_R g17) (okX2_ne (okX4_order g17)) (pc2 := 107) rfl ?_
        refine e_aload_n dX6_rankOf_107 0 rfl rfl (pc2 := 108) rfl ?_
        obtain ⟨g18, hf⟩ := gd_some hf
        refine e_getR (r := s16.2.2.2.2.1) fl_X6_33 dX6_rankOf_108 so_73 rfl (okX4_ne g18) (pc2 := 111) rfl ?_
        refine e_iload_n dX6_rankOf_111 1 rfl rfl (pc2 := 112) rfl ?_
        refine e_aload_n dX6_rankOf_112 0 rfl rfl (pc2 := 113) rfl ?_
        obtain ⟨g19, hf⟩ := gd_some hf
        refine e_getR (r := s16.2.2.2.2.2.1) fl_X6_37 dX6_rankOf_113 so_73 rfl (okX7_ne g19) (pc2 := 116) rfl ?_
        refine e_getI fl_X6_97 dX6_rankOf_116 (okX7_o g19) (by decide) (pc2 := 119) rfl ?_
        obtain ⟨y20, hy20, hf⟩ := bnd_s hf
        refine e_callVs (t_X4_farOf (s16.2.2.2.2.1) g18 v1 (s16.1 (s16.2.2.2.2.2.1) 2) s16 hy20) dX6_rankOf_119 cv_X6_148 rfl (okX4_o g18) rc_4 (by decide) (by first | exact Nat.le_of_ble_eq_true rfl | simp [rva_cat, vc_i, vc_r, vc_l, vc_n]) nn0 rfl (pc2 := 122) rfl ?_
        refine e_iload_n dX6_rankOf_122 2 rfl rfl (pc2 := 123) rfl ?_
        refine e_aload_n dX6_rankOf_123 0 rfl rfl (pc2 := 124) rfl ?_
        refine e_getR (r := 74) fl_X6_9 dX6_rankOf_124 so_73 (rs_73_8 s16.2.2) (by decide) (pc2 := 127) rfl ?_
        refine e_iload_n dX6_rankOf_127 1 rfl rfl (pc2 := 128) rfl ?_
        obtain ⟨g21, hf⟩ := gd_some hf
        refine e_iald dX6_rankOf_128 sa_74 (inb_v g21) (pc2 := 129) rfl ?_
        refine e_isub dX6_rankOf_129 (pc2 := 130) rfl ?_
        refine e_iload_n dX6_rankOf_130 3 rfl rfl (pc2 := 131) rfl ?_
        refine e_iload dX6_rankOf_131 4 rfl (pc2 := 133) rfl ?_
        obtain ⟨y22, s23, hy22, hf⟩ := bnd2_s hf
        refine e_callVs (t_X2_value (Rf (s16.2.2.2.2.1) 8) (okX4_order g17) y20 (v2 - (s16.1 74 v1.toNatClampNeg)) w0 v15 s16 hy22) dX6_rankOf_133 cv_X6_151 rfl (okX2_o (okX4_order g17)) rc_2 (by decide) (by first | exact Nat.le_of_ble_eq_true rfl | simp [rva_cat, vc_i, vc_r, vc_l, vc_n]) nn0 rfl (pc2 := 136) rfl ?_
        cases hf
        exact e_iret rfl dX6_rankOf_136
    · have hf := if_t c5 hf
      refine e_iconst (x := 1) dX6_rankOf_40 (by decide) (pc2 := 41) rfl ?_
      refine e_iload_n dX6_rankOf_41 3 rfl rfl (pc2 := 42) rfl ?_
      refine e_isub dX6_rankOf_42 (pc2 := 43) rfl ?_
      cases hf
      exact e_iret rfl dX6_rankOf_43
  · have hf := if_t c4 hf
    refine e_iconst (x := 0) dX6_rankOf_30 (by decide) (pc2 := 31) rfl ?_
    cases hf
    exact e_iret rfl dX6_rankOf_31
def f_X6_rankOf (v1 : Int32) (v2 : Int32) (s : HS) : Option (Int32 × HS) :=
  gd (okX4 (s.2.2.2.2.1)) (gd (inb v1 6) ((if (s.1 (Rf (Rf (s.2.2.2.2.1) 15) v1.toNatClampNeg) 1) = 1 then f_X6_rankOf_j21 v1 v2 0 s else f_X6_rankOf_j21 v1 v2 1 s)))
set_option maxRecDepth 20000 in
set_option maxHeartbeats 2000000 in
theorem t_X6_rankOf (v1 : Int32) (v2 : Int32) (s : HS) {x : Int32} {t : HS} (hf : f_X6_rankOf  v1 v2 s = some (x, t)) : Mt DDX6_rankOf miX6_rankOf [.ref 73, .int v1, .int v2] NF (hp s) (some (.int x)) NF (hp t) := by
  refine Mt.of (by decide +kernel) (Nat.le_refl _) (Nat.le_of_ble_eq_true rfl) ?_
  show Ev DDX6_rankOf miX6_rankOf NF (some (.int x)) NF (hp t) 0 NF [(0, .ref 73), (1, .int v1), (2, .int v2)] [] (hp s)
  unfold f_X6_rankOf at hf
  refine e_aload_n dX6_rankOf_0 0 rfl rfl (pc2 := 1) rfl ?_
  obtain ⟨g1, hf⟩ := gd_some hf
  refine e_getR (r := s.2.2.2.2.1) fl_X6_33 dX6_rankOf_1 so_73 rfl (okX4_ne g1) (pc2 := 4) rfl ?_
  refine e_getR (r := Rf (s.2.2.2.2.1) 15) fl_X6_104 dX6_rankOf_4 (okX4_o g1) (okX4_R g1) (isA_ne (okX4_buyer g1)) (pc2 := 7) rfl ?_
  refine e_iload_n dX6_rankOf_7 1 rfl rfl (pc2 := 8) rfl ?_
  obtain ⟨g2, hf⟩ := gd_some hf
  refine e_aald (r := Rf (Rf (s.2.2.2.2.1) 15) v1.toNatClampNeg) dX6_rankOf_8 (okX4_buyer g1) (by decide) (inb_v g2) (Rs_na (q := s.2.2) (okX4_buyer g1) (by decide)) (okX0_ne (okX4_buyer_el g1 (inb_v g2))) (pc2 := 9) rfl ?_
  refine e_getI fl_X6_108 dX6_rankOf_9 (okX0_o (okX4_buyer_el g1 (inb_v g2))) (by decide) (pc2 := 12) rfl ?_
  refine e_iconst (x := 1) dX6_rankOf_12 (by decide) (pc2 := 13) rfl ?_
  refine e_icmp_ne (tgt := 20) dX6_rankOf_13 (by decide) (pc2 := 16) rfl (fun c3 => ?_) (fun c3 => ?_)
  · have hf := if_f c3 hf
    refine e_iconst (x := 1) dX6_rankOf_20 (by decide) (pc2 := 21) rfl ?_
    exact t_X6_rankOf_j21 v1 v2 1 s hf
  · have hf := if_t c3 hf
    refine e_iconst (x := 0) dX6_rankOf_16 (by decide) (pc2 := 17) rfl ?_
    refine e_goto (tgt := 21) dX6_rankOf_17 (by decide) ?_
    exact t_X6_rankOf_j21 v1 v2 0 s hf
abbrev DDX6_nextServed : Nat := 3
def f_X6_nextServed_j109 (v1 : Int32) (v2 : Int32) (v3 : Int32) (v4 : Int32) (k7 : Int32 → Int32 → Int32 → HS → Option (Int32 × HS)) (s : HS) : Option (Int32 × HS) :=
  ltb (v4 + 1) fun x5 => k7 v2 v3 x5 s
set_option maxRecDepth 20000 in
set_option maxHeartbeats 2000000 in
theorem t_X6_nextServed_j109 (v1 : Int32) (v2 : Int32) (v3 : Int32) (v4 : Int32) (s : HS) {x : Int32} {t : HS} (k7 : Int32 → Int32 → Int32 → HS → Option (Int32 × HS)) (hk7 : ∀ (a2 : Int32) (a3 : Int32) (a4 : Int32) (s : HS), k7 a2 a3 a4 s = some (x, t) → Ev DDX6_nextServed miX6_nextServed NF (some (.int x)) NF (hp t) 7 NF [(0, .ref 73), (1, .int v1), (2, .int a2), (3, .int a3), (4, .int a4)] [] (hp s)) (hf : f_X6_nextServed_j109 v1 v2 v3 v4 k7 s = some (x, t)) : Ev DDX6_nextServed miX6_nextServed NF (some (.int x)) NF (hp t) 109 NF [(0, .ref 73), (1, .int v1), (2, .int v2), (3, .int v3), (4, .int v4)] [] (hp s) := by
  obtain ⟨x5, ex5, hf⟩ := ltb_s hf
  refine e_iinc dX6_nextServed_109 4 rfl (c9 := 1) (by decide) ex5.symm (by decide) (ls' := [(0, .ref 73), (1, .int v1), (2, .int v2), (3, .int v3), (4, .int x5)]) [1, 2, 3, 4, 0] rfl (pc2 := 112) rfl ?_
  refine e_goto (tgt := 7) dX6_nextServed_112 (by decide) ?_
  exact hk7 v2 v3 x5 s hf
def f_X6_nextServed_j103 (v1 : Int32) (v4 : Int32) (v5 : Int32) (k7 : Int32 → Int32 → Int32 → HS → Option (Int32 × HS)) (s : HS) : Option (Int32 × HS) :=
  f_X6_nextServed_j109 v1 v4 v5 v4 k7 s
set_option maxRecDepth 20000 in
set_option maxHeartbeats 2000000 in
theorem t_X6_nextServed_j103 (v1 : Int32) (v4 : Int32) (v5 : Int32) (s : HS) {x : Int32} {t : HS} (k7 : Int32 → Int32 → Int32 → HS → Option (Int32 × HS)) (hk7 : ∀ (a2 : Int32) (a3 : Int32) (a4 : Int32) (s : HS), k7 a2 a3 a4 s = some (x, t) → Ev DDX6_nextServed miX6_nextServed NF (some (.int x)) NF (hp t) 7 NF [(0, .ref 73), (1, .int v1), (2, .int a2), (3, .int a3), (4, .int a4)] [] (hp s)) (hf : f_X6_nextServed_j103 v1 v4 v5 k7 s = some (x, t)) : Ev DDX6_nextServed miX6_nextServed NF (some (.int x)) NF (hp t) 103 NF [(0, .ref 73), (1, .int v1), (4, .int v4), (5, .int v5)] [] (hp s) := by
  refine e_iload dX6_nextServed_103 2 rfl (pc2 := 105) rfl ?_
  refine e_istore_n dX6_nextServed_105 rfl (by decide) rfl (ls' := [(0, .ref 73), (1, .int v1), (2, .int v4), (4, .int v4), (5, .int v5)]) [1, 2, 0, 3, 4] rfl (pc2 := 106) rfl ?_
  refine e_iload dX6_nextServed_106 4 rfl (pc2 := 108) rfl ?_
  refine e_istore_n dX6_nextServed_108 rfl (by decide) rfl (ls' := [(0, .ref 73), (1, .int v1), (2, .int v4), (3, .int v5), (4, .int v4)]) [1, 2, 3, 0, 4] rfl (pc2 := 109) rfl ?_
  exact t_X6_nextServed_j109 v1 v4 v5 v4 s _ hk7 hf
def f_X6_nextServed_l7b (v1 : Int32) (v2 : Int32) (v3 : Int32) (v4 : Int32) (k7 : Int32 → Int32 → Int32 → HS → Option (Int32 × HS)) (s : HS) : Option (Int32 × HS) :=
  gd (okX4 (s.2.2.2.2.1)) ((if (s.1 (s.2.2.2.2.1) 14) ≤ v4 then some (v2, s) else bnd (f_X6_isOut v4 s) fun y3 => (if y3 = 0 then f_X6_nextServed_j109 v1 v2 v3 v4 k7 s else gd (inb v4 6) ((if (s.1 76 v4.toNatClampNeg) = (-1) then gd (inb v4 6) ((if v1 < (s.1 74 v4.toNatClampNeg) then f_X6_nextServed_j109 v1 v2 v3 v4 k7 s else gd (inb v4 6) ((if (s.1 75 v4.toNatClampNeg) ≤ v1 then f_X6_nextServed_j109 v1 v2 v3 v4 k7 s else bnd2 (f_X6_rankOf v4 v1 s) fun y12 s13 => (if v2 = (-1) then f_X6_nextServed_j103 v1 v4 y12 k7 s13 else (if y12 < v3 then f_X6_nextServed_j103 v1 v4 y12 k7 s13 else (if y12 = v3 then gd (inb v4 6) (gd (inb v2 6) ((if (s13.1 74 v2.toNatClampNeg) ≤ (s13.1 74 v4.toNatClampNeg) then f_X6_nextServed_j109 v1 v2 v3 v4 k7 s13 else f_X6_nextServed_j103 v1 v4 y12 k7 s13))) else f_X6_nextServed_j109 v1 v2 v3 v4 k7 s13))))))) else f_X6_nextServed_j109 v1 v2 v3 v4 k7 s)))))
set_option maxRecDepth 20000 in
set_option maxHeartbeats 2000000 in
theorem t_X6_nextServed_l7b (v1 : Int32) (v2 : Int32) (v3 : Int32) (v4 : Int32) (s : HS) {x : Int32} {t : HS} (k7 : Int32 → Int32 → Int32 → HS → Option (Int32 × HS)) (hk7 : ∀ (a2 : Int32) (a3 : Int32) (a4 : Int32) (s : HS), k7 a2 a3 a4 s = some (x, t) → Ev DDX6_nextServed miX6_nextServed NF (some (.int x)) NF (hp t) 7 NF [(0, .ref 73), (1, .int v1), (2, .int a2), (3, .int a3), (4, .int a4)] [] (hp s)) (hf : f_X6_nextServed_l7b v1 v2 v3 v4 k7 s = some (x, t)) : Ev DDX6_nextServed miX6_nextServed NF (some (.int x)) NF (hp t) 7 NF [(0, .ref 73), (1, .int v1), (2, .int v2), (3, .int v3), (4, .int v4)] [] (hp s) := by
  refine e_iload dX6_nextServed_7 4 rfl (pc2 := 9) rfl ?_
  refine e_aload_n dX6_nextServed_9 0 rfl rfl (pc2 := 10) rfl ?_
  obtain ⟨g1, hf⟩ := gd_some hf
  refine e_getR (r := s.2.2.2.2.1) fl_X6_33 dX6_nextServed_10 so_73 rfl (okX4_ne g1) (pc2 := 13) rfl ?_
  refine e_getI fl_X6_76 dX6_nextServed_13 (okX4_o g1) (by decide) (pc2 := 16) rfl ?_
  refine e_icmp_ge (tgt := 115) dX6_nextServed_16 (by decide) (pc2 := 19) rfl (fun c2 => ?_) (fun c2 => ?_)
  · have hf := if_t c2 hf
    refine e_iload_n dX6_nextServed_115 2 rfl rfl (pc2 := 116) rfl ?_
    cases hf
    exact e_iret rfl dX6_nextServed_116
  · have hf := if_f c2 hf
    refine e_aload_n dX6_nextServed_19 0 rfl rfl (pc2 := 20) rfl ?_
    refine e_iload dX6_nextServed_20 4 rfl (pc2 := 22) rfl ?_
    obtain ⟨y3, hy3, hf⟩ := bnd_s hf
    refine e_callVs (t_X6_isOut v4 s hy3) dX6_nextServed_22 cv_X6_79 rfl so_73 rc_6 (by decide) (by first | exact Nat.le_of_ble_eq_true rfl | simp [rva_cat, vc_i, vc_r, vc_l, vc_n]) nn0 rfl (pc2 := 25) rfl ?_
    refine e_if_eq (tgt := 109) dX6_nextServed_25 (by decide) (pc2 := 28) rfl (fun c4 => ?_) (fun c4 => ?_)
    · have hf := if_t c4 hf
      exact t_X6_nextServed_j109 v1 v2 v3 v4 s _ hk7 hf
    · have hf := if_f c4 hf
      refine e_aload_n dX6_nextServed_28 0 rfl rfl (pc2 := 29) rfl ?_
      refine e_getR (r := 76) fl_X6_18 dX6_nextServed_29 so_73 (rs_73_10 s.2.2) (by decide) (pc2 := 32) rfl ?_
      refine e_iload dX6_nextServed_32 4 rfl (pc2 := 34) rfl ?_
      obtain ⟨g6, hf⟩ := gd_some hf
      refine e_iald dX6_nextServed_34 sa_76 (inb_v g6) (pc2 := 35) rfl ?_
      refine e_iconst (x := (-1)) dX6_nextServed_35 (by decide) (pc2 := 36) rfl ?_
      refine e_icmp_ne (tgt := 109) dX6_nextServed_36 (by decide) (pc2 := 39) rfl (fun c7 => ?_) (fun c7 => ?_)
      · have hf := if_f c7 hf
        exact t_X6_nextServed_j109 v1 v2 v3 v4 s _ hk7 hf
      · have hf := if_t c7 hf
        refine e_aload_n dX6_nextServed_39 0 rfl rfl (pc2 := 40) rfl ?_
        refine e_getR (r := 74) fl_X6_9 dX6_nextServed_40 so_73 (rs_73_8 s.2.2) (by decide) (pc2 := 43) rfl ?_
        refine e_iload dX6_nextServed_43 4 rfl (pc2 := 45) rfl ?_
        obtain ⟨g8, hf⟩ := gd_some hf
        refine e_iald dX6_nextServed_45 sa_74 (inb_v g8) (pc2 := 46) rfl ?_
        refine e_iload_n dX6_nextServed_46 1 rfl rfl (pc2 := 47) rfl ?_
        refine e_icmp_gt (tgt := 109) dX6_nextServed_47 (by decide) (pc2 := 50) rfl (fun c9 => ?_) (fun c9 => ?_)
        · have hf := if_t c9 hf
          exact t_X6_nextServed_j109 v1 v2 v3 v4 s _ hk7 hf
        · have hf := if_f c9 hf
          refine e_iload_n dX6_nextServed_50 1 rfl rfl (pc2 := 51) rfl ?_
          refine e_aload_n dX6_nextServed_51 0 rfl rfl (pc2 := 52) rfl ?_
          refine e_getR (r := 75) fl_X6_15 dX6_nextServed_52 so_73 (rs_73_9 s.2.2) (by decide) (pc2 := 55) rfl ?_
          refine e_iload dX6_nextServed_55 4 rfl (pc2 := 57) rfl ?_
          obtain ⟨g10, hf⟩ := gd_some hf
          refine e_iald dX6_nextServed_57 sa_75 (inb_v g10) (pc2 := 58) rfl ?_
          refine e_icmp_ge (tgt := 109) dX6_nextServed_58 (by decide) (pc2 := 61) rfl (fun c11 => ?_) (fun c11 => ?_)
          · have hf := if_t c11 hf
            exact t_X6_nextServed_j109 v1 v2 v3 v4 s _ hk7 hf
          · have hf := if_f c11 hf
            refine e_aload_n dX6_nextServed_61 0 rfl rfl (pc2 := 62) rfl ?_
            refine e_iload dX6_nextServed_62 4 rfl (pc2 := 64) rfl ?_
            refine e_iload_n dX6_nextServed_64 1 rfl rfl (pc2 := 65) rfl ?_
            obtain ⟨y12, s13, hy12, hf⟩ := bnd2_s hf
            refine e_callVs (t_X6_rankOf v4 v1 s hy12) dX6_nextServed_65 cv_X6_134 rfl so_73 rc_6 (by decide) (by first | exact Nat.le_of_ble_eq_true rfl | simp [rva_cat, vc_i, vc_r, vc_l, vc_n]) nn0 rfl (pc2 := 68) rfl ?_
            refine e_istore dX6_nextServed_68 (by decide) rfl (ls' := [(0, .ref 73), (1, .int v1), (2, .int v2), (3, .int v3), (4, .int v4), (5, .int y12)]) [1, 2, 3, 4, 5, 0] rfl (pc2 := 70) rfl ?_
            refine e_iload_n dX6_nextServed_70 2 rfl rfl (pc2 := 71) rfl ?_
            refine e_iconst (x := (-1)) dX6_nextServed_71 (by decide) (pc2 := 72) rfl ?_
            refine e_icmp_eq (tgt := 103) dX6_nextServed_72 (by decide) (pc2 := 75) rfl (fun c14 => ?_) (fun c14 => ?_)
            · have hf := if_t c14 hf
              refine ev_sub [0, 1, 4, 5] rfl ?_
              exact t_X6_nextServed_j103 v1 v4 y12 s13 _ hk7 hf
            · have hf := if_f c14 hf
              refine e_iload dX6_nextServed_75 5 rfl (pc2 := 77) rfl ?_
              refine e_iload_n dX6_nextServed_77 3 rfl rfl (pc2 := 78) rfl ?_
              refine e_icmp_lt (tgt := 103) dX6_nextServed_78 (by decide) (pc2 := 81) rfl (fun c15 => ?_) (fun c15 => ?_)
              · have hf := if_t c15 hf
                refine ev_sub [0, 1, 4, 5] rfl ?_
                exact t_X6_nextServed_j103 v1 v4 y12 s13 _ hk7 hf
              · have hf := if_f c15 hf
                refine e_iload dX6_nextServed_81 5 rfl (pc2 := 83) rfl ?_
                refine e_iload_n dX6_nextServed_83 3 rfl rfl (pc2 := 84) rfl ?_
                refine e_icmp_ne (tgt := 109) dX6_nextServed_84 (by decide) (pc2 := 87) rfl (fun c16 => ?_) (fun c16 => ?_)
                · have hf := if_f c16 hf
                  refine ev_sub [0, 1, 2, 3, 4] rfl ?_
                  exact t_X6_nextServed_j109 v1 v2 v3 v4 s13 _ hk7 hf
                · have hf := if_t c16 hf
                  refine e_aload_n dX6_nextServed_87 0 rfl rfl (pc2 := 88) rfl ?_
                  refine e_getR (r := 74) fl_X6_9 dX6_nextServed_88 so_73 (rs_73_8 s13.2.2) (by decide) (pc2 := 91) rfl ?_
                  refine e_iload dX6_nextServed_91 4 rfl (pc2 := 93) rfl ?_
                  obtain ⟨g17, hf⟩ := gd_some hf
                  refine e_iald dX6_nextServed_93 sa_74 (inb_v g17) (pc2 := 94) rfl ?_
                  refine e_aload_n dX6_nextServed_94 0 rfl rfl (pc2 := 95) rfl ?_
                  refine e_getR (r := 74) fl_X6_9 dX6_nextServed_95 so_73 (rs_73_8 s13.2.2) (by decide) (pc2 := 98) rfl ?_
                  refine e_iload_n dX6_nextServed_98 2 rfl rfl (pc2 := 99) rfl ?_
                  obtain ⟨g18, hf⟩ := gd_some hf
                  refine e_iald dX6_nextServed_99 sa_74 (inb_v g18) (pc2 := 100) rfl ?_
                  refine e_icmp_ge (tgt := 109) dX6_nextServed_100 (by decide) (pc2 := 103) rfl (fun c19 => ?_) (fun c19 => ?_)
                  · have hf := if_t c19 hf
                    refine ev_sub [0, 1, 2, 3, 4] rfl ?_
                    exact t_X6_nextServed_j109 v1 v2 v3 v4 s13 _ hk7 hf
                  · have hf := if_f c19 hf
                    refine ev_sub [0, 1, 4, 5] rfl ?_
                    exact t_X6_nextServed_j103 v1 v4 y12 s13 _ hk7 hf
def f_X6_nextServed_l7 (v1 : Int32) : Nat → Int32 → Int32 → Int32 → HS → Option (Int32 × HS)
  | 0, _, _, _, _ => none
  | n + 1, v2, v3, v4, s => f_X6_nextServed_l7b v1 v2 v3 v4 (f_X6_nextServed_l7 v1 n)  s
set_option maxRecDepth 20000 in
set_option maxHeartbeats 2000000 in
theorem t_X6_nextServed_l7 (v1 : Int32) {x : Int32} {t : HS}  : ∀ (n : Nat) (v2 : Int32) (v3 : Int32) (v4 : Int32) (s : HS), f_X6_nextServed_l7 v1 n v2 v3 v4 s = some (x, t) → Ev DDX6_nextServed miX6_nextServed NF (some (.int x)) NF (hp t) 7 NF [(0, .ref 73), (1, .int v1), (2, .int v2), (3, .int v3), (4, .int v4)] [] (hp s) := by
  intro n
  induction n with
  | zero =>
    intro v2 v3 v4 s hf
    have hf : none = some (x, t) := hf
    cases hf
  | succ n ih =>
    intro v2 v3 v4 s hf
    exact t_X6_nextServed_l7b v1 v2 v3 v4  s _ ih  hf
def f_X6_nextServed (v1 : Int32) (s : HS) : Option (Int32 × HS) :=
  f_X6_nextServed_l7 v1 FU (-1) 0 0 s
set_option maxRecDepth 20000 in
set_option maxHeartbeats 2000000 in
theorem t_X6_nextServed (v1 : Int32) (s : HS) {x : Int32} {t : HS} (hf : f_X6_nextServed  v1 s = some (x, t)) : Mt DDX6_nextServed miX6_nextServed [.ref 73, .int v1] NF (hp s) (some (.int x)) NF (hp t) := by
  refine Mt.of (by decide +kernel) (Nat.le_refl _) (Nat.le_of_ble_eq_true rfl) ?_
  show Ev DDX6_nextServed miX6_nextServed NF (some (.int x)) NF (hp t) 0 NF [(0, .ref 73), (1, .int v1)] [] (hp s)
  unfold f_X6_nextServed at hf
  refine e_iconst (x := (-1)) dX6_nextServed_0 (by decide) (pc2 := 1) rfl ?_
  refine e_istore_n dX6_nextServed_1 rfl (by decide) rfl (ls' := [(0, .ref 73), (1, .int v1), (2, .int (-1))]) [1, 2, 0] rfl (pc2 := 2) rfl ?_
  refine e_iconst (x := 0) dX6_nextServed_2 (by decide) (pc2 := 3) rfl ?_
  refine e_istore_n dX6_nextServed_3 rfl (by decide) rfl (ls' := [(0, .ref 73), (1, .int v1), (2, .int (-1)), (3, .int 0)]) [1, 2, 3, 0] rfl (pc2 := 4) rfl ?_
  refine e_iconst (x := 0) dX6_nextServed_4 (by decide) (pc2 := 5) rfl ?_
  refine e_istore dX6_nextServed_5 (by decide) rfl (ls' := [(0, .ref 73), (1, .int v1), (2, .int (-1)), (3, .int 0), (4, .int 0)]) [1, 2, 3, 4, 0] rfl (pc2 := 7) rfl ?_
  refine t_X6_nextServed_l7 v1 FU (-1) 0 0 s hf
abbrev DDX6_begin : Nat := 2
def f_X6_begin_l31b (v1 : Int32) (v2 : Int32) (v3 : Int32) (v4 : Int32) (k31 : Int32 → Int32 → HS → Option HS) (k75 : Int32 → HS → Option HS) (s : HS) : Option HS :=
  gd (okX4 (s.2.2.2.2.1)) ((if (s.1 (s.2.2.2.2.1) 14) ≤ v4 then k75 v3 s else (if (f_X6_wantsToo v1 v4 s) = 0 then ltb (v3 + 0) fun x7 => ltb (v4 + 1) fun x8 => k31 x7 x8 s else gd (okX4 (s.2.2.2.2.1)) (bnd (f_X4_secsFor (s.2.2.2.2.1) v4 s) fun y10 => ltb (v3 + y10) fun x11 => ltb (v4 + 1) fun x12 => k31 x11 x12 s))))
set_option maxRecDepth 20000 in
set_option maxHeartbeats 2000000 in
theorem t_X6_begin_l31b (v1 : Int32) (v2 : Int32) (v3 : Int32) (v4 : Int32) (s : HS) {t : HS} (k31 : Int32 → Int32 → HS → Option HS) (hk31 : ∀ (a3 : Int32) (a4 : Int32) (s : HS), k31 a3 a4 s = some t → Ev DDX6_begin miX6_begin NF none NF (hp t) 31 NF [(0, .ref 73), (1, .int v1), (2, .int v2), (3, .int a3), (4, .int a4)] [] (hp s)) (k75 : Int32 → HS → Option HS) (hk75 : ∀ (a3 : Int32) (s : HS), k75 a3 s = some t → Ev DDX6_begin miX6_begin NF none NF (hp t) 75 NF [(0, .ref 73), (1, .int v1), (2, .int v2), (3, .int a3)] [] (hp s)) (hf : f_X6_begin_l31b v1 v2 v3 v4 k31 k75 s = some t) : Ev DDX6_begin miX6_begin NF none NF (hp t) 31 NF [(0, .ref 73), (1, .int v1), (2, .int v2), (3, .int v3), (4, .int v4)] [] (hp s) := by
  refine e_iload dX6_begin_31 4 rfl (pc2 := 33) rfl ?_
  refine e_aload_n dX6_begin_33 0 rfl rfl (pc2 := 34) rfl ?_
  obtain ⟨g4, hf⟩ := gd_some hf
  refine e_getR (r := s.2.2.2.2.1) fl_X6_33 dX6_begin_34 so_73 rfl (okX4_ne g4) (pc2 := 37) rfl ?_
  refine e_getI fl_X6_76 dX6_begin_37 (okX4_o g4) (by decide) (pc2 := 40) rfl ?_
  refine e_icmp_ge (tgt := 75) dX6_begin_40 (by decide) (pc2 := 43) rfl (fun c5 => ?_) (fun c5 => ?_)
  · have hf := if_t c5 hf
    refine ev_sub [0, 1, 2, 3] rfl ?_
    exact hk75 v3 s hf
  · have hf := if_f c5 hf
    refine e_iload_n dX6_begin_43 3 rfl rfl (pc2 := 44) rfl ?_
    refine e_aload_n dX6_begin_44 0 rfl rfl (pc2 := 45) rfl ?_
    refine e_iload_n dX6_begin_45 1 rfl rfl (pc2 := 46) rfl ?_
    refine e_iload dX6_begin_46 4 rfl (pc2 := 48) rfl ?_
    refine e_callVs (t_X6_wantsToo v1 v4 s rfl) dX6_begin_48 cv_X6_137 rfl so_73 rc_6 (by decide) (by first | exact Nat.le_of_ble_eq_true rfl | simp [rva_cat, vc_i, vc_r, vc_l, vc_n]) nn0 rfl (pc2 := 51) rfl ?_
    refine e_if_eq (tgt := 66) dX6_begin_51 (by decide) (pc2 := 54) rfl (fun c6 => ?_) (fun c6 => ?_)
    · have hf := if_t c6 hf
      refine e_iconst (x := 0) dX6_begin_66 (by decide) (pc2 := 67) rfl ?_
      refine e_iadd dX6_begin_67 (pc2 := 68) rfl ?_
      obtain ⟨x7, ex7, hf⟩ := ltb_s hf
      refine e_istore_n dX6_begin_68 rfl (by decide) ex7.symm (ls' := [(0, .ref 73), (1, .int v1), (2, .int v2), (3, .int x7), (4, .int v4)]) [1, 2, 3, 0, 4] rfl (pc2 := 69) rfl ?_
      obtain ⟨x8, ex8, hf⟩ := ltb_s hf
      refine e_iinc dX6_begin_69 4 rfl (c9 := 1) (by decide) ex8.symm (by decide) (ls' := [(0, .ref 73), (1, .int v1), (2, .int v2), (3, .int x7), (4, .int x8)]) [1, 2, 3, 4, 0] rfl (pc2 := 72) rfl ?_
      refine e_goto (tgt := 31) dX6_begin_72 (by decide) ?_
      exact hk31 x7 x8 s hf
    · have hf := if_f c6 hf
      refine e_aload_n dX6_begin_54 0 rfl rfl (pc2 := 55) rfl ?_
      obtain ⟨g9, hf⟩ := gd_some hf
      refine e_getR (r := s.2.2.2.2.1) fl_X6_33 dX6_begin_55 so_73 rfl (okX4_ne g9) (pc2 := 58) rfl ?_
      refine e_iload dX6_begin_58 4 rfl (pc2 := 60) rfl ?_
      obtain ⟨y10, hy10, hf⟩ := bnd_s hf
      refine e_callVs (t_X4_secsFor (s.2.2.2.2.1) g9 v4 s hy10) dX6_begin_60 cv_X6_160 rfl (okX4_o g9) rc_4 (by decide) (by first | exact Nat.le_of_ble_eq_true rfl | simp [rva_cat, vc_i, vc_r, vc_l, vc_n]) nn0 rfl (pc2 := 63) rfl ?_
      refine e_goto (tgt := 67) dX6_begin_63 (by decide) ?_
      refine e_iadd dX6_begin_67 (pc2 := 68) rfl ?_
      obtain ⟨x11, ex11, hf⟩ := ltb_s hf
      refine e_istore_n dX6_begin_68 rfl (by decide) ex11.symm (ls' := [(0, .ref 73), (1, .int v1), (2, .int v2), (3, .int x11), (4, .int v4)]) [1, 2, 3, 0, 4] rfl (pc2 := 69) rfl ?_
      obtain ⟨x12, ex12, hf⟩ := ltb_s hf
      refine e_iinc dX6_begin_69 4 rfl (c9 := 1) (by decide) ex12.symm (by decide) (ls' := [(0, .ref 73), (1, .int v1), (2, .int v2), (3, .int x11), (4, .int x12)]) [1, 2, 3, 4, 0] rfl (pc2 := 72) rfl ?_
      refine e_goto (tgt := 31) dX6_begin_72 (by decide) ?_
      exact hk31 x11 x12 s hf
def f_X6_begin_l31 (v1 : Int32) (v2 : Int32) (k75 : Int32 → HS → Option HS) : Nat → Int32 → Int32 → HS → Option HS
  | 0, _, _, _ => none
  | n + 1, v3, v4, s => f_X6_begin_l31b v1 v2 v3 v4 (f_X6_begin_l31 v1 v2 k75 n) k75 s
set_option maxRecDepth 20000 in
set_option maxHeartbeats 2000000 in
theorem t_X6_begin_l31 (v1 : Int32) (v2 : Int32) {t : HS} (k75 : Int32 → HS → Option HS) (hk75 : ∀ (a3 : Int32) (s : HS), k75 a3 s = some t → Ev DDX6_begin miX6_begin NF none NF (hp t) 75 NF [(0, .ref 73), (1, .int v1), (2, .int v2), (3, .int a3)] [] (hp s)) : ∀ (n : Nat) (v3 : Int32) (v4 : Int32) (s : HS), f_X6_begin_l31 v1 v2 k75 n v3 v4 s = some t → Ev DDX6_begin miX6_begin NF none NF (hp t) 31 NF [(0, .ref 73), (1, .int v1), (2, .int v2), (3, .int v3), (4, .int v4)] [] (hp s) := by
  intro n
  induction n with
  | zero =>
    intro v3 v4 s hf
    have hf : none = some t := hf
    cases hf
  | succ n ih =>
    intro v3 v4 s hf
    exact t_X6_begin_l31b v1 v2 v3 v4  s _ ih _ hk75 hf
def f_X6_begin_j153 (v1 : Int32) (v2 : Int32) (v3 : Int32) (s : HS) : Option HS :=
  gd (inb v1 6) (ltb (sI s 76 (v1.toNatClampNeg) v2) fun s16 => gd (inb v1 6) (ltb (sI s16 77 (v1.toNatClampNeg) (v2 + v3)) fun s18 => some s18))
set_option maxRecDepth 20000 in
set_option maxHeartbeats 2000000 in
theorem t_X6_begin_j153 (v1 : Int32) (v2 : Int32) (v3 : Int32) (s : HS) {t : HS}  (hf : f_X6_begin_j153 v1 v2 v3 s = some t) : Ev DDX6_begin miX6_begin NF none NF (hp t) 153 NF [(0, .ref 73), (1, .int v1), (2, .int v2), (3, .int v3)] [] (hp s) := by
  refine e_aload_n dX6_begin_153 0 rfl rfl (pc2 := 154) rfl ?_
  refine e_getR (r := 76) fl_X6_18 dX6_begin_154 so_73 (rs_73_10 s.2.2) (by decide) (pc2 := 157) rfl ?_
  refine e_iload_n dX6_begin_157 1 rfl rfl (pc2 := 158) rfl ?_
  refine e_iload_n dX6_begin_158 2 rfl rfl (pc2 := 159) rfl ?_
  obtain ⟨g17, hf⟩ := gd_some hf
  obtain ⟨s16, es16, hf⟩ := ltb_s hf
  refine e_iast dX6_begin_159 sa_76 (inb_v g17) (h2 := hp s16) (by rw [es16]; rfl) (pc2 := 160) rfl ?_
  refine e_aload_n dX6_begin_160 0 rfl rfl (pc2 := 161) rfl ?_
  refine e_getR (r := 77) fl_X6_21 dX6_begin_161 so_73 (rs_73_11 s16.2.2) (by decide) (pc2 := 164) rfl ?_
  refine e_iload_n dX6_begin_164 1 rfl rfl (pc2 := 165) rfl ?_
  refine e_iload_n dX6_begin_165 2 rfl rfl (pc2 := 166) rfl ?_
  refine e_iload_n dX6_begin_166 3 rfl rfl (pc2 := 167) rfl ?_
  refine e_iadd dX6_begin_167 (pc2 := 168) rfl ?_
  obtain ⟨g19, hf⟩ := gd_some hf
  obtain ⟨s18, es18, hf⟩ := ltb_s hf
  refine e_iast dX6_begin_168 sa_77 (inb_v g19) (h2 := hp s18) (by rw [es18]; rfl) (pc2 := 169) rfl ?_
  cases hf
  exact e_vret rfl dX6_begin_169
def f_X6_begin_j27 (v1 : Int32) (v2 : Int32) (w0 : Int32) (s : HS) : Option HS :=
  f_X6_begin_l31 v1 v2 (fun v13 s14 => (if (s14.1 73 6) ≤ 0 then f_X6_begin_j153 v1 v2 v13 s14 else (if (s14.1 73 5) < 0 then f_X6_begin_j153 v1 v2 v13 s14 else gd (okX4 (s14.2.2.2.2.1)) (gd (inb v1 6) ((if (((s14.1 (Rf (Rf (s14.2.2.2.2.1) 15) v1.toNatClampNeg) 7) >>> ((s14.1 73 5) &&& 31)) &&& (1 : Int32)) = 0 then f_X6_begin_j153 v1 v2 v13 s14 else ltb (sI s14 73 6 ((s14.1 73 6) - 1)) fun s24 => ltb (sI s24 73 16 ((s24.1 73 16) ||| ((1 : Int32) <<< (v1 &&& 31)))) fun s25 => gd (okX4 (s25.2.2.2.2.1)) (gd (inb (s25.1 73 5) 5) (ltb (v13 + (1 - (s25.1 (Rf (Rf (s25.2.2.2.2.1) 13) (s25.1 73 5).toNatClampNeg) 2))) fun x28 => f_X6_begin_j153 v1 v2 x28 s25)))))))) FU w0 0 s
set_option maxRecDepth 20000 in
set_option maxHeartbeats 2000000 in
theorem t_X6_begin_j27 (v1 : Int32) (v2 : Int32) (w0 : Int32) (s : HS) {t : HS}  (hf : f_X6_begin_j27 v1 v2 w0 s = some t) : Ev DDX6_begin miX6_begin NF none NF (hp t) 27 NF [(0, .ref 73), (1, .int v1), (2, .int v2)] [.int w0] (hp s) := by
  refine e_istore_n dX6_begin_27 rfl (by decide) rfl (ls' := [(0, .ref 73), (1, .int v1), (2, .int v2), (3, .int w0)]) [1, 2, 3, 0] rfl (pc2 := 28) rfl ?_
  refine e_iconst (x := 0) dX6_begin_28 (by decide) (pc2 := 29) rfl ?_
  refine e_istore dX6_begin_29 (by decide) rfl (ls' := [(0, .ref 73), (1, .int v1), (2, .int v2), (3, .int w0), (4, .int 0)]) [1, 2, 3, 4, 0] rfl (pc2 := 31) rfl ?_
  refine t_X6_begin_l31 v1 v2 _ ?_ FU w0 0 s hf
  · intro v13 s14 hf
    refine e_aload_n dX6_begin_75 0 rfl rfl (pc2 := 76) rfl ?_
    refine e_getI fl_X6_54 dX6_begin_76 so_73 (by decide) (pc2 := 79) rfl ?_
    refine e_if_le (tgt := 153) dX6_begin_79 (by decide) (pc2 := 82) rfl (fun c15 => ?_) (fun c15 => ?_)
    · have hf := if_t c15 hf
      exact t_X6_begin_j153 v1 v2 v13 s14 hf
    · have hf := if_f c15 hf
      refine e_aload_n dX6_begin_82 0 rfl rfl (pc2 := 83) rfl ?_
      refine e_getI fl_X6_51 dX6_begin_83 so_73 (by decide) (pc2 := 86) rfl ?_
      refine e_if_lt (tgt := 153) dX6_begin_86 (by decide) (pc2 := 89) rfl (fun c20 => ?_) (fun c20 => ?_)
      · have hf := if_t c20 hf
        exact t_X6_begin_j153 v1 v2 v13 s14 hf
      · have hf := if_f c20 hf
        refine e_aload_n dX6_begin_89 0 rfl rfl (pc2 := 90) rfl ?_
        obtain ⟨g21, hf⟩ := gd_some hf
        refine e_getR (r := s14.2.2.2.2.1) fl_X6_33 dX6_begin_90 so_73 rfl (okX4_ne g21) (pc2 := 93) rfl ?_
        refine e_getR (r := Rf (s14.2.2.2.2.1) 15) fl_X6_104 dX6_begin_93 (okX4_o g21) (okX4_R g21) (isA_ne (okX4_buyer g21)) (pc2 := 96) rfl ?_
        refine e_iload_n dX6_begin_96 1 rfl rfl (pc2 := 97) rfl ?_
        obtain ⟨g22, hf⟩ := gd_some hf
        refine e_aald (r := Rf (Rf (s14.2.2.2.2.1) 15) v1.toNatClampNeg) dX6_begin_97 (okX4_buyer g21) (by decide) (inb_v g22) (Rs_na (q := s14.2.2) (okX4_buyer g21) (by decide)) (okX0_ne (okX4_buyer_el g21 (inb_v g22))) (pc2 := 98) rfl ?_
        refine e_getI fl_X6_163 dX6_begin_98 (okX0_o (okX4_buyer_el g21 (inb_v g22))) (by decide) (pc2 := 101) rfl ?_
        refine e_aload_n dX6_begin_101 0 rfl rfl (pc2 := 102) rfl ?_
        refine e_getI fl_X6_51 dX6_begin_102 so_73 (by decide) (pc2 := 105) rfl ?_
        refine e_ishr dX6_begin_105 (pc2 := 106) rfl ?_
        refine e_iconst (x := 1) dX6_begin_106 (by decide) (pc2 := 107) rfl ?_
        refine e_iand dX6_begin_107 (pc2 := 108) rfl ?_
        refine e_if_eq (tgt := 153) dX6_begin_108 (by decide) (pc2 := 111) rfl (fun c23 => ?_) (fun c23 => ?_)
        · have hf := if_t c23 hf
          exact t_X6_begin_j153 v1 v2 v13 s14 hf
        · have hf := if_f c23 hf
          refine e_aload_n dX6_begin_111 0 rfl rfl (pc2 := 112) rfl ?_
          refine e_dup dX6_begin_112 rfl (pc2 := 113) rfl ?_
          refine e_getI fl_X6_54 dX6_begin_113 so_73 (by decide) (pc2 := 116) rfl ?_
          refine e_iconst (x := 1) dX6_begin_116 (by decide) (pc2 := 117) rfl ?_
          refine e_isub dX6_begin_117 (pc2 := 118) rfl ?_
          obtain ⟨s24, es24, hf⟩ := ltb_s hf
          refine e_putI fl_X6_54 dX6_begin_118 so_73 fn_6_6 (h2 := hp s24) (by rw [es24]; rfl) (pc2 := 121) rfl ?_
          refine e_aload_n dX6_begin_121 0 rfl rfl (pc2 := 122) rfl ?_
          refine e_dup dX6_begin_122 rfl (pc2 := 123) rfl ?_
          refine e_getI fl_X6_94 dX6_begin_123 so_73 (by decide) (pc2 := 126) rfl ?_
          refine e_iconst (x := 1) dX6_begin_126 (by decide) (pc2 := 127) rfl ?_
          refine e_iload_n dX6_begin_127 1 rfl rfl (pc2 := 128) rfl ?_
          refine e_ishl dX6_begin_128 (pc2 := 129) rfl ?_
          refine e_ior dX6_begin_129 (pc2 := 130) rfl ?_
          obtain ⟨s25, es25, hf⟩ := ltb_s hf
          refine e_putI fl_X6_94 dX6_begin_130 so_73 fn_6_16 (h2 := hp s25) (by rw [es25]; rfl) (pc2 := 133) rfl ?_
          refine e_iload_n dX6_begin_133 3 rfl rfl (pc2 := 134) rfl ?_
          refine e_iconst (x := 1) dX6_begin_134 (by decide) (pc2 := 135) rfl ?_
          refine e_aload_n dX6_begin_135 0 rfl rfl (pc2 := 136) rfl ?_
          obtain ⟨g26, hf⟩ := gd_some hf
          refine e_getR (r := s25.2.2.2.2.1) fl_X6_33 dX6_begin_136 so_73 rfl (okX4_ne g26) (pc2 := 139) rfl ?_
          refine e_getR (r := Rf (s25.2.2.2.2.1) 13) fl_X6_166 dX6_begin_139 (okX4_o g26) (okX4_R g26) (isA_ne (okX4_thing g26)) (pc2 := 142) rfl ?_
          refine e_aload_n dX6_begin_142 0 rfl rfl (pc2 := 143) rfl ?_
          refine e_getI fl_X6_51 dX6_begin_143 so_73 (by decide) (pc2 := 146) rfl ?_
          obtain ⟨g27, hf⟩ := gd_some hf
          refine e_aald (r := Rf (Rf (s25.2.2.2.2.1) 13) (s25.1 73 5).toNatClampNeg) dX6_begin_146 (okX4_thing g26) (by decide) (inb_v g27) (Rs_na (q := s25.2.2) (okX4_thing g26) (by decide)) (okX9_ne (okX4_thing_el g26 (inb_v g27))) (pc2 := 147) rfl ?_
          refine e_getI fl_X6_170 dX6_begin_147 (okX9_o (okX4_thing_el g26 (inb_v g27))) (by decide) (pc2 := 150) rfl ?_
          refine e_isub dX6_begin_150 (pc2 := 151) rfl ?_
          refine e_iadd dX6_begin_151 (pc2 := 152) rfl ?_
          obtain ⟨x28, ex28, hf⟩ := ltb_s hf
          refine e_istore_n dX6_begin_152 rfl (by decide) ex28.symm (ls' := [(0, .ref 73), (1, .int v1), (2, .int v2), (3, .int x28)]) [1, 2, 3, 0] rfl (pc2 := 153) rfl ?_
          exact t_X6_begin_j153 v1 v2 x28 s25 hf
def f_X6_begin (v1 : Int32) (v2 : Int32) (s : HS) : Option HS :=
  gd (okX4 (s.2.2.2.2.1)) (gd (inb v1 6) ((if (s.1 (Rf (Rf (s.2.2.2.2.1) 15) v1.toNatClampNeg) 1) = 1 then gd (okX4 (s.2.2.2.2.1)) (f_X6_begin_j27 v1 v2 (s.1 (s.2.2.2.2.1) 3) s) else f_X6_begin_j27 v1 v2 0 s)))
set_option maxRecDepth 20000 in
set_option maxHeartbeats 2000000 in
theorem t_X6_begin (v1 : Int32) (v2 : Int32) (s : HS) {t : HS} (hf : f_X6_begin  v1 v2 s = some t) : Mt DDX6_begin miX6_begin [.ref 73, .int v1, .int v2] NF (hp s) none NF (hp t) := by
  refine Mt.of (by decide +kernel) (Nat.le_refl _) (Nat.le_of_ble_eq_true rfl) ?_
  show Ev DDX6_begin miX6_begin NF none NF (hp t) 0 NF [(0, .ref 73), (1, .int v1), (2, .int v2)] [] (hp s)
  unfold f_X6_begin at hf
  refine e_aload_n dX6_begin_0 0 rfl rfl (pc2 := 1) rfl ?_
  obtain ⟨g1, hf⟩ := gd_some hf
  refine e_getR (r := s.2.2.2.2.1) fl_X6_33 dX6_begin_1 so_73 rfl (okX4_ne g1) (pc2 := 4) rfl ?_
  refine e_getR (r := Rf (s.2.2.2.2.1) 15) fl_X6_104 dX6_begin_4 (okX4_o g1) (okX4_R g1) (isA_ne (okX4_buyer g1)) (pc2 := 7) rfl ?_
  refine e_iload_n dX6_begin_7 1 rfl rfl (pc2 := 8) rfl ?_
  obtain ⟨g2, hf⟩ := gd_some hf
  refine e_aald (r := Rf (Rf (s.2.2.2.2.1) 15) v1.toNatClampNeg) dX6_begin_8 (okX4_buyer g1) (by decide) (inb_v g2) (Rs_na (q := s.2.2) (okX4_buyer g1) (by decide)) (okX0_ne (okX4_buyer_el g1 (inb_v g2))) (pc2 := 9) rfl ?_
  refine e_getI fl_X6_108 dX6_begin_9 (okX0_o (okX4_buyer_el g1 (inb_v g2))) (by decide) (pc2 := 12) rfl ?_
  refine e_iconst (x := 1) dX6_begin_12 (by decide) (pc2 := 13) rfl ?_
  refine e_icmp_ne (tgt := 26) dX6_begin_13 (by decide) (pc2 := 16) rfl (fun c3 => ?_) (fun c3 => ?_)
  · have hf := if_f c3 hf
    refine e_iconst (x := 0) dX6_begin_26 (by decide) (pc2 := 27) rfl ?_
    exact t_X6_begin_j27 v1 v2 0 s hf
  · have hf := if_t c3 hf
    refine e_aload_n dX6_begin_16 0 rfl rfl (pc2 := 17) rfl ?_
    obtain ⟨g29, hf⟩ := gd_some hf
    refine e_getR (r := s.2.2.2.2.1) fl_X6_33 dX6_begin_17 so_73 rfl (okX4_ne g29) (pc2 := 20) rfl ?_
    refine e_getI fl_X6_157 dX6_begin_20 (okX4_o g29) (by decide) (pc2 := 23) rfl ?_
    refine e_goto (tgt := 27) dX6_begin_23 (by decide) ?_
    exact t_X6_begin_j27 v1 v2 (s.1 (s.2.2.2.2.1) 3) s hf
abbrev DDX6_serveWaiting : Nat := 4
def f_X6_serveWaiting_l2b (v1 : Int32) (v2 : Int32) (k2 : Int32 → HS → Option HS) (s : HS) : Option HS :=
  gd (okX7 (s.2.2.2.2.2.1)) ((if (s.1 (s.2.2.2.2.2.1) 3) ≤ v2 then some s else (if 2 ≤ v2 then some s else gd (inb v2 2) ((if v1 < (s.1 80 v2.toNatClampNeg) then ltb (v2 + 1) fun x6 => k2 x6 s else bnd2 (f_X6_nextServed v1 s) fun y7 s8 => (if y7 = (-1) then some s8 else bnd (f_X6_begin y7 v1 s8) fun s11 => gd (inb y7 6) (gd (inb v2 2) (ltb (sI s11 80 (v2.toNatClampNeg) (s11.1 77 y7.toNatClampNeg)) fun s13 => ltb (v2 + 1) fun x15 => k2 x15 s13))))))))
set_option maxRecDepth 20000 in
set_option maxHeartbeats 2000000 in
theorem t_X6_serveWaiting_l2b (v1 : Int32) (v2 : Int32) (s : HS) {t : HS} (k2 : Int32 → HS → Option HS) (hk2 : ∀ (a2 : Int32) (s : HS), k2 a2 s = some t → Ev DDX6_serveWaiting miX6_serveWaiting NF none NF (hp t) 2 NF [(0, .ref 73), (1, .int v1), (2, .int a2)] [] (hp s)) (hf : f_X6_serveWaiting_l2b v1 v2 k2 s = some t) : Ev DDX6_serveWaiting miX6_serveWaiting NF none NF (hp t) 2 NF [(0, .ref 73), (1, .int v1), (2, .int v2)] [] (hp s) := by
  refine e_iload_n dX6_serveWaiting_2 2 rfl rfl (pc2 := 3) rfl ?_
  refine e_aload_n dX6_serveWaiting_3 0 rfl rfl (pc2 := 4) rfl ?_
  obtain ⟨g1, hf⟩ := gd_some hf
  refine e_getR (r := s.2.2.2.2.2.1) fl_X6_37 dX6_serveWaiting_4 so_73 rfl (okX7_ne g1) (pc2 := 7) rfl ?_
  refine e_getI fl_X6_124 dX6_serveWaiting_7 (okX7_o g1) (by decide) (pc2 := 10) rfl ?_
  refine e_icmp_ge (tgt := 68) dX6_serveWaiting_10 (by decide) (pc2 := 13) rfl (fun c2 => ?_) (fun c2 => ?_)
  · have hf := if_t c2 hf
    cases hf
    exact e_vret rfl dX6_serveWaiting_68
  · have hf := if_f c2 hf
    refine e_iload_n dX6_serveWaiting_13 2 rfl rfl (pc2 := 14) rfl ?_
    refine e_aload_n dX6_serveWaiting_14 0 rfl rfl (pc2 := 15) rfl ?_
    refine e_getR (r := 80) fl_X6_30 dX6_serveWaiting_15 so_73 (rs_73_14 s.2.2) (by decide) (pc2 := 18) rfl ?_
    refine e_alen (x := 2) dX6_serveWaiting_18 sa_80 (by decide) (by decide) (pc2 := 19) rfl ?_
    refine e_icmp_ge (tgt := 68) dX6_serveWaiting_19 (by decide) (pc2 := 22) rfl (fun c3 => ?_) (fun c3 => ?_)
    · have hf := if_t c3 hf
      cases hf
      exact e_vret rfl dX6_serveWaiting_68
    · have hf := if_f c3 hf
      refine e_aload_n dX6_serveWaiting_22 0 rfl rfl (pc2 := 23) rfl ?_
      refine e_getR (r := 80) fl_X6_30 dX6_serveWaiting_23 so_73 (rs_73_14 s.2.2) (by decide) (pc2 := 26) rfl ?_
      refine e_iload_n dX6_serveWaiting_26 2 rfl rfl (pc2 := 27) rfl ?_
      obtain ⟨g4, hf⟩ := gd_some hf
      refine e_iald dX6_serveWaiting_27 sa_80 (inb_v g4) (pc2 := 28) rfl ?_
      refine e_iload_n dX6_serveWaiting_28 1 rfl rfl (pc2 := 29) rfl ?_
      refine e_icmp_gt (tgt := 62) dX6_serveWaiting_29 (by decide) (pc2 := 32) rfl (fun c5 => ?_) (fun c5 => ?_)
      · have hf := if_t c5 hf
        obtain ⟨x6, ex6, hf⟩ := ltb_s hf
        refine e_iinc dX6_serveWaiting_62 2 rfl (c9 := 1) (by decide) ex6.symm (by decide) (ls' := [(0, .ref 73), (1, .int v1), (2, .int x6)]) [1, 2, 0] rfl (pc2 := 65) rfl ?_
        refine e_goto (tgt := 2) dX6_serveWaiting_65 (by decide) ?_
        exact hk2 x6 s hf
      · have hf := if_f c5 hf
        refine e_aload_n dX6_serveWaiting_32 0 rfl rfl (pc2 := 33) rfl ?_
        refine e_iload_n dX6_serveWaiting_33 1 rfl rfl (pc2 := 34) rfl ?_
        obtain ⟨y7, s8, hy7, hf⟩ := bnd2_s hf
        refine e_callVs (t_X6_nextServed v1 s hy7) dX6_serveWaiting_34 cv_X6_127 rfl so_73 rc_6 (by decide) (by first | exact Nat.le_of_ble_eq_true rfl | simp [rva_cat, vc_i, vc_r, vc_l, vc_n]) nn0 rfl (pc2 := 37) rfl ?_
        refine e_istore_n dX6_serveWaiting_37 rfl (by decide) rfl (ls' := [(0, .ref 73), (1, .int v1), (2, .int v2), (3, .int y7)]) [1, 2, 3, 0] rfl (pc2 := 38) rfl ?_
        refine e_iload_n dX6_serveWaiting_38 3 rfl rfl (pc2 := 39) rfl ?_
        refine e_iconst (x := (-1)) dX6_serveWaiting_39 (by decide) (pc2 := 40) rfl ?_
        refine e_icmp_ne (tgt := 44) dX6_serveWaiting_40 (by decide) (pc2 := 43) rfl (fun c9 => ?_) (fun c9 => ?_)
        · have hf := if_f c9 hf
          refine e_aload_n dX6_serveWaiting_44 0 rfl rfl (pc2 := 45) rfl ?_
          refine e_iload_n dX6_serveWaiting_45 3 rfl rfl (pc2 := 46) rfl ?_
          refine e_iload_n dX6_serveWaiting_46 1 rfl rfl (pc2 := 47) rfl ?_
          obtain ⟨s11, hy10, hf⟩ := bnd_s hf
          refine e_callVn (t_X6_begin y7 v1 s8 hy10) dX6_serveWaiting_47 cv_X6_130 rfl so_73 rc_6 (by decide) (by first | exact Nat.le_of_ble_eq_true rfl | simp [rva_cat, vc_i, vc_r, vc_l, vc_n]) nn0 rfl (pc2 := 50) rfl ?_
          refine e_aload_n dX6_serveWaiting_50 0 rfl rfl (pc2 := 51) rfl ?_
          refine e_getR (r := 80) fl_X6_30 dX6_serveWaiting_51 so_73 (rs_73_14 s11.2.2) (by decide) (pc2 := 54) rfl ?_
          refine e_iload_n dX6_serveWaiting_54 2 rfl rfl (pc2 := 55) rfl ?_
          refine e_aload_n dX6_serveWaiting_55 0 rfl rfl (pc2 := 56) rfl ?_
          refine e_getR (r := 77) fl_X6_21 dX6_serveWaiting_56 so_73 (rs_73_11 s11.2.2) (by decide) (pc2 := 59) rfl ?_
          refine e_iload_n dX6_serveWaiting_59 3 rfl rfl (pc2 := 60) rfl ?_
          obtain ⟨g12, hf⟩ := gd_some hf
          refine e_iald dX6_serveWaiting_60 sa_77 (inb_v g12) (pc2 := 61) rfl ?_
          obtain ⟨g14, hf⟩ := gd_some hf
          obtain ⟨s13, es13, hf⟩ := ltb_s hf
          refine e_iast dX6_serveWaiting_61 sa_80 (inb_v g14) (h2 := hp s13) (by rw [es13]; rfl) (pc2 := 62) rfl ?_
          obtain ⟨x15, ex15, hf⟩ := ltb_s hf
          refine e_iinc dX6_serveWaiting_62 2 rfl (c9 := 1) (by decide) ex15.symm (by decide) (ls' := [(0, .ref 73), (1, .int v1), (2, .int x15)]) [1, 2, 0] rfl (pc2 := 65) rfl ?_
          refine e_goto (tgt := 2) dX6_serveWaiting_65 (by decide) ?_
          exact hk2 x15 s13 hf
        · have hf := if_t c9 hf
          cases hf
          exact e_vret rfl dX6_serveWaiting_43
def f_X6_serveWaiting_l2 (v1 : Int32) : Nat → Int32 → HS → Option HS
  | 0, _, _ => none
  | n + 1, v2, s => f_X6_serveWaiting_l2b v1 v2 (f_X6_serveWaiting_l2 v1 n)  s
set_option maxRecDepth 20000 in
set_option maxHeartbeats 2000000 in
theorem t_X6_serveWaiting_l2 (v1 : Int32) {t : HS}  : ∀ (n : Nat) (v2 : Int32) (s : HS), f_X6_serveWaiting_l2 v1 n v2 s = some t → Ev DDX6_serveWaiting miX6_serveWaiting NF none NF (hp t) 2 NF [(0, .ref 73), (1, .int v1), (2, .int v2)] [] (hp s) := by
  intro n
  induction n with
  | zero =>
    intro v2 s hf
    have hf : none = some t := hf
    cases hf
  | succ n ih =>
    intro v2 s hf
    exact t_X6_serveWaiting_l2b v1 v2  s _ ih  hf
def f_X6_serveWaiting (v1 : Int32) (s : HS) : Option HS :=
  f_X6_serveWaiting_l2 v1 FU 0 s
set_option maxRecDepth 20000 in
set_option maxHeartbeats 2000000 in
theorem t_X6_serveWaiting (v1 : Int32) (s : HS) {t : HS} (hf : f_X6_serveWaiting  v1 s = some t) : Mt DDX6_serveWaiting miX6_serveWaiting [.ref 73, .int v1] NF (hp s) none NF (hp t) := by
  refine Mt.of (by decide +kernel) (Nat.le_refl _) (Nat.le_of_ble_eq_true rfl) ?_
  show Ev DDX6_serveWaiting miX6_serveWaiting NF none NF (hp t) 0 NF [(0, .ref 73), (1, .int v1)] [] (hp s)
  unfold f_X6_serveWaiting at hf
  refine e_iconst (x := 0) dX6_serveWaiting_0 (by decide) (pc2 := 1) rfl ?_
  refine e_istore_n dX6_serveWaiting_1 rfl (by decide) rfl (ls' := [(0, .ref 73), (1, .int v1), (2, .int 0)]) [1, 2, 0] rfl (pc2 := 2) rfl ?_
  refine t_X6_serveWaiting_l2 v1 FU 0 s hf
abbrev DDX6_nextSecond : Nat := 2
def f_X6_nextSecond_l10b (v1 : Int32) (v2 : Int32) (v3 : Int32) (k10 : Int32 → Int32 → Option Int32) (k56 : Int32 → Option Int32) (s : HS) : Option Int32 :=
  gd (okX4 (s.2.2.2.2.1)) ((if (s.1 (s.2.2.2.2.1) 14) ≤ v3 then k56 v2 else bnd (f_X6_isOut v3 s) fun y5 => (if y5 = 0 then ltb (v3 + 1) fun x7 => k10 v2 x7 else gd (inb v3 6) ((if (s.1 74 v3.toNatClampNeg) ≤ v1 then ltb (v3 + 1) fun x10 => k10 v2 x10 else gd (inb v3 6) (ltb (imin v2 (s.1 74 v3.toNatClampNeg)) fun x12 => ltb (v3 + 1) fun x13 => k10 x12 x13))))))
set_option maxRecDepth 20000 in
set_option maxHeartbeats 2000000 in
theorem t_X6_nextSecond_l10b (v1 : Int32) (v2 : Int32) (v3 : Int32) (s : HS) {x : Int32} (k10 : Int32 → Int32 → Option Int32) (hk10 : ∀ (a2 : Int32) (a3 : Int32), k10 a2 a3 = some x → Ev DDX6_nextSecond miX6_nextSecond NF (some (.int x)) NF (hp s) 10 NF [(0, .ref 73), (1, .int v1), (2, .int a2), (3, .int a3)] [] (hp s)) (k56 : Int32 → Option Int32) (hk56 : ∀ (a2 : Int32), k56 a2 = some x → Ev DDX6_nextSecond miX6_nextSecond NF (some (.int x)) NF (hp s) 56 NF [(0, .ref 73), (1, .int v1), (2, .int a2)] [] (hp s)) (hf : f_X6_nextSecond_l10b v1 v2 v3 k10 k56 s = some x) : Ev DDX6_nextSecond miX6_nextSecond NF (some (.int x)) NF (hp s) 10 NF [(0, .ref 73), (1, .int v1), (2, .int v2), (3, .int v3)] [] (hp s) := by
  refine e_iload_n dX6_nextSecond_10 3 rfl rfl (pc2 := 11) rfl ?_
  refine e_aload_n dX6_nextSecond_11 0 rfl rfl (pc2 := 12) rfl ?_
  obtain ⟨g3, hf⟩ := gd_some hf
  refine e_getR (r := s.2.2.2.2.1) fl_X6_33 dX6_nextSecond_12 so_73 rfl (okX4_ne g3) (pc2 := 15) rfl ?_
  refine e_getI fl_X6_76 dX6_nextSecond_15 (okX4_o g3) (by decide) (pc2 := 18) rfl ?_
  refine e_icmp_ge (tgt := 56) dX6_nextSecond_18 (by decide) (pc2 := 21) rfl (fun c4 => ?_) (fun c4 => ?_)
  · have hf := if_t c4 hf
    refine ev_sub [0, 1, 2] rfl ?_
    exact hk56 v2 hf
  · have hf := if_f c4 hf
    refine e_aload_n dX6_nextSecond_21 0 rfl rfl (pc2 := 22) rfl ?_
    refine e_iload_n dX6_nextSecond_22 3 rfl rfl (pc2 := 23) rfl ?_
    obtain ⟨y5, hy5, hf⟩ := bnd_s hf
    refine e_callVs (t_X6_isOut v3 s hy5) dX6_nextSecond_23 cv_X6_79 rfl so_73 rc_6 (by decide) (by first | exact Nat.le_of_ble_eq_true rfl | simp [rva_cat, vc_i, vc_r, vc_l, vc_n]) nn0 rfl (pc2 := 26) rfl ?_
    refine e_if_eq (tgt := 50) dX6_nextSecond_26 (by decide) (pc2 := 29) rfl (fun c6 => ?_) (fun c6 => ?_)
    · have hf := if_t c6 hf
      obtain ⟨x7, ex7, hf⟩ := ltb_s hf
      refine e_iinc dX6_nextSecond_50 3 rfl (c9 := 1) (by decide) ex7.symm (by decide) (ls' := [(0, .ref 73), (1, .int v1), (2, .int v2), (3, .int x7)]) [1, 2, 3, 0] rfl (pc2 := 53) rfl ?_
      refine e_goto (tgt := 10) dX6_nextSecond_53 (by decide) ?_
      exact hk10 v2 x7 hf
    · have hf := if_f c6 hf
      refine e_aload_n dX6_nextSecond_29 0 rfl rfl (pc2 := 30) rfl ?_
      refine e_getR (r := 74) fl_X6_9 dX6_nextSecond_30 so_73 (rs_73_8 s.2.2) (by decide) (pc2 := 33) rfl ?_
      refine e_iload_n dX6_nextSecond_33 3 rfl rfl (pc2 := 34) rfl ?_
      obtain ⟨g8, hf⟩ := gd_some hf
      refine e_iald dX6_nextSecond_34 sa_74 (inb_v g8) (pc2 := 35) rfl ?_
      refine e_iload_n dX6_nextSecond_35 1 rfl rfl (pc2 := 36) rfl ?_
      refine e_icmp_le (tgt := 50) dX6_nextSecond_36 (by decide) (pc2 := 39) rfl (fun c9 => ?_) (fun c9 => ?_)
      · have hf := if_t c9 hf
        obtain ⟨x10, ex10, hf⟩ := ltb_s hf
        refine e_iinc dX6_nextSecond_50 3 rfl (c9 := 1) (by decide) ex10.symm (by decide) (ls' := [(0, .ref 73), (1, .int v1), (2, .int v2), (3, .int x10)]) [1, 2, 3, 0] rfl (pc2 := 53) rfl ?_
        refine e_goto (tgt := 10) dX6_nextSecond_53 (by decide) ?_
        exact hk10 v2 x10 hf
      · have hf := if_f c9 hf
        refine e_iload_n dX6_nextSecond_39 2 rfl rfl (pc2 := 40) rfl ?_
        refine e_aload_n dX6_nextSecond_40 0 rfl rfl (pc2 := 41) rfl ?_
        refine e_getR (r := 74) fl_X6_9 dX6_nextSecond_41 so_73 (rs_73_8 s.2.2) (by decide) (pc2 := 44) rfl ?_
        refine e_iload_n dX6_nextSecond_44 3 rfl rfl (pc2 := 45) rfl ?_
        obtain ⟨g11, hf⟩ := gd_some hf
        refine e_iald dX6_nextSecond_45 sa_74 (inb_v g11) (pc2 := 46) rfl ?_
        refine e_mmin dX6_nextSecond_46 mm_X6_119 (by decide) nn0 (by first | exact Nat.le_of_ble_eq_true rfl | simp [rva_cat, vc_i, vc_r, vc_l, vc_n]) (pc2 := 49) rfl ?_
        obtain ⟨x12, ex12, hf⟩ := ltb_s hf
        refine e_istore_n dX6_nextSecond_49 rfl (by decide) ex12.symm (ls' := [(0, .ref 73), (1, .int v1), (2, .int x12), (3, .int v3)]) [1, 2, 0, 3] rfl (pc2 := 50) rfl ?_
        obtain ⟨x13, ex13, hf⟩ := ltb_s hf
        refine e_iinc dX6_nextSecond_50 3 rfl (c9 := 1) (by decide) ex13.symm (by decide) (ls' := [(0, .ref 73), (1, .int v1), (2, .int x12), (3, .int x13)]) [1, 2, 3, 0] rfl (pc2 := 53) rfl ?_
        refine e_goto (tgt := 10) dX6_nextSecond_53 (by decide) ?_
        exact hk10 x12 x13 hf
def f_X6_nextSecond_l10 (v1 : Int32) (k56 : Int32 → Option Int32) (s : HS) : Nat → Int32 → Int32 → Option Int32
  | 0, _, _ => none
  | n + 1, v2, v3 => f_X6_nextSecond_l10b v1 v2 v3 (f_X6_nextSecond_l10 v1 k56 s n) k56 s
set_option maxRecDepth 20000 in
set_option maxHeartbeats 2000000 in
theorem t_X6_nextSecond_l10 (v1 : Int32) (s : HS) {x : Int32} (k56 : Int32 → Option Int32) (hk56 : ∀ (a2 : Int32), k56 a2 = some x → Ev DDX6_nextSecond miX6_nextSecond NF (some (.int x)) NF (hp s) 56 NF [(0, .ref 73), (1, .int v1), (2, .int a2)] [] (hp s)) : ∀ (n : Nat) (v2 : Int32) (v3 : Int32), f_X6_nextSecond_l10 v1 k56 s n v2 v3 = some x → Ev DDX6_nextSecond miX6_nextSecond NF (some (.int x)) NF (hp s) 10 NF [(0, .ref 73), (1, .int v1), (2, .int v2), (3, .int v3)] [] (hp s) := by
  intro n
  induction n with
  | zero =>
    intro v2 v3 hf
    have hf : none = some x := hf
    cases hf
  | succ n ih =>
    intro v2 v3 hf
    exact t_X6_nextSecond_l10b v1 v2 v3  s _ ih _ hk56 hf
def f_X6_nextSecond_l58b (v1 : Int32) (v2 : Int32) (v3 : Int32) (k58 : Int32 → Int32 → Option Int32) (s : HS) : Option Int32 :=
  (if 2 ≤ v3 then some v2 else gd (inb v3 2) ((if (s.1 80 v3.toNatClampNeg) ≤ v1 then ltb (v3 + 1) fun x18 => k58 v2 x18 else gd (inb v3 2) (ltb (imin v2 (s.1 80 v3.toNatClampNeg)) fun x20 => ltb (v3 + 1) fun x21 => k58 x20 x21))))
set_option maxRecDepth 20000 in
set_option maxHeartbeats 2000000 in
theorem t_X6_nextSecond_l58b (v1 : Int32) (v2 : Int32) (v3 : Int32) (s : HS) {x : Int32} (k58 : Int32 → Int32 → Option Int32) (hk58 : ∀ (a2 : Int32) (a3 : Int32), k58 a2 a3 = some x → Ev DDX6_nextSecond miX6_nextSecond NF (some (.int x)) NF (hp s) 58 NF [(0, .ref 73), (1, .int v1), (2, .int a2), (3, .int a3)] [] (hp s)) (hf : f_X6_nextSecond_l58b v1 v2 v3 k58 s = some x) : Ev DDX6_nextSecond miX6_nextSecond NF (some (.int x)) NF (hp s) 58 NF [(0, .ref 73), (1, .int v1), (2, .int v2), (3, .int v3)] [] (hp s) := by
  refine e_iload_n dX6_nextSecond_58 3 rfl rfl (pc2 := 59) rfl ?_
  refine e_aload_n dX6_nextSecond_59 0 rfl rfl (pc2 := 60) rfl ?_
  refine e_getR (r := 80) fl_X6_30 dX6_nextSecond_60 so_73 (rs_73_14 s.2.2) (by decide) (pc2 := 63) rfl ?_
  refine e_alen (x := 2) dX6_nextSecond_63 sa_80 (by decide) (by decide) (pc2 := 64) rfl ?_
  refine e_icmp_ge (tgt := 94) dX6_nextSecond_64 (by decide) (pc2 := 67) rfl (fun c15 => ?_) (fun c15 => ?_)
  · have hf := if_t c15 hf
    refine e_iload_n dX6_nextSecond_94 2 rfl rfl (pc2 := 95) rfl ?_
    cases hf
    exact e_iret rfl dX6_nextSecond_95
  · have hf := if_f c15 hf
    refine e_aload_n dX6_nextSecond_67 0 rfl rfl (pc2 := 68) rfl ?_
    refine e_getR (r := 80) fl_X6_30 dX6_nextSecond_68 so_73 (rs_73_14 s.2.2) (by decide) (pc2 := 71) rfl ?_
    refine e_iload_n dX6_nextSecond_71 3 rfl rfl (pc2 := 72) rfl ?_
    obtain ⟨g16, hf⟩ := gd_some hf
    refine e_iald dX6_nextSecond_72 sa_80 (inb_v g16) (pc2 := 73) rfl ?_
    refine e_iload_n dX6_nextSecond_73 1 rfl rfl (pc2 := 74) rfl ?_
    refine e_icmp_le (tgt := 88) dX6_nextSecond_74 (by decide) (pc2 := 77) rfl (fun c17 => ?_) (fun c17 => ?_)
    · have hf := if_t c17 hf
      obtain ⟨x18, ex18, hf⟩ := ltb_s hf
      refine e_iinc dX6_nextSecond_88 3 rfl (c9 := 1) (by decide) ex18.symm (by decide) (ls' := [(0, .ref 73), (1, .int v1), (2, .int v2), (3, .int x18)]) [1, 2, 3, 0] rfl (pc2 := 91) rfl ?_
      refine e_goto (tgt := 58) dX6_nextSecond_91 (by decide) ?_
      exact hk58 v2 x18 hf
    · have hf := if_f c17 hf
      refine e_iload_n dX6_nextSecond_77 2 rfl rfl (pc2 := 78) rfl ?_
      refine e_aload_n dX6_nextSecond_78 0 rfl rfl (pc2 := 79) rfl ?_
      refine e_getR (r := 80) fl_X6_30 dX6_nextSecond_79 so_73 (rs_73_14 s.2.2) (by decide) (pc2 := 82) rfl ?_
      refine e_iload_n dX6_nextSecond_82 3 rfl rfl (pc2 := 83) rfl ?_
      obtain ⟨g19, hf⟩ := gd_some hf
      refine e_iald dX6_nextSecond_83 sa_80 (inb_v g19) (pc2 := 84) rfl ?_
      refine e_mmin dX6_nextSecond_84 mm_X6_119 (by decide) nn0 (by first | exact Nat.le_of_ble_eq_true rfl | simp [rva_cat, vc_i, vc_r, vc_l, vc_n]) (pc2 := 87) rfl ?_
      obtain ⟨x20, ex20, hf⟩ := ltb_s hf
      refine e_istore_n dX6_nextSecond_87 rfl (by decide) ex20.symm (ls' := [(0, .ref 73), (1, .int v1), (2, .int x20), (3, .int v3)]) [1, 2, 0, 3] rfl (pc2 := 88) rfl ?_
      obtain ⟨x21, ex21, hf⟩ := ltb_s hf
      refine e_iinc dX6_nextSecond_88 3 rfl (c9 := 1) (by decide) ex21.symm (by decide) (ls' := [(0, .ref 73), (1, .int v1), (2, .int x20), (3, .int x21)]) [1, 2, 3, 0] rfl (pc2 := 91) rfl ?_
      refine e_goto (tgt := 58) dX6_nextSecond_91 (by decide) ?_
      exact hk58 x20 x21 hf
def f_X6_nextSecond_l58 (v1 : Int32) (s : HS) : Nat → Int32 → Int32 → Option Int32
  | 0, _, _ => none
  | n + 1, v2, v3 => f_X6_nextSecond_l58b v1 v2 v3 (f_X6_nextSecond_l58 v1 s n)  s
set_option maxRecDepth 20000 in
set_option maxHeartbeats 2000000 in
theorem t_X6_nextSecond_l58 (v1 : Int32) (s : HS) {x : Int32}  : ∀ (n : Nat) (v2 : Int32) (v3 : Int32), f_X6_nextSecond_l58 v1 s n v2 v3 = some x → Ev DDX6_nextSecond miX6_nextSecond NF (some (.int x)) NF (hp s) 58 NF [(0, .ref 73), (1, .int v1), (2, .int v2), (3, .int v3)] [] (hp s) := by
  intro n
  induction n with
  | zero =>
    intro v2 v3 hf
    have hf : none = some x := hf
    cases hf
  | succ n ih =>
    intro v2 v3 hf
    exact t_X6_nextSecond_l58b v1 v2 v3  s _ ih  hf
def f_X6_nextSecond (v1 : Int32) (s : HS) : Option Int32 :=
  gd (okX4 (s.2.2.2.2.1)) (ltb (s.1 (s.2.2.2.2.1) 0) fun x2 => f_X6_nextSecond_l10 v1 (fun v14 => f_X6_nextSecond_l58 v1 s FU v14 0) s FU x2 0)
set_option maxRecDepth 20000 in
set_option maxHeartbeats 2000000 in
theorem t_X6_nextSecond (v1 : Int32) (s : HS) {x : Int32} (hf : f_X6_nextSecond  v1 s = some x) : Mt DDX6_nextSecond miX6_nextSecond [.ref 73, .int v1] NF (hp s) (some (.int x)) NF (hp s) := by
  refine Mt.of (by decide +kernel) (Nat.le_refl _) (Nat.le_of_ble_eq_true rfl) ?_
  show Ev DDX6_nextSecond miX6_nextSecond NF (some (.int x)) NF (hp s) 0 NF [(0, .ref 73), (1, .int v1)] [] (hp s)
  unfold f_X6_nextSecond at hf
  refine e_aload_n dX6_nextSecond_0 0 rfl rfl (pc2 := 1) rfl ?_
  obtain ⟨g1, hf⟩ := gd_some hf
  refine e_getR (r := s.2.2.2.2.1) fl_X6_33 dX6_nextSecond_1 so_73 rfl (okX4_ne g1) (pc2 := 4) rfl ?_
  refine e_getI fl_X6_63 dX6_nextSecond_4 (okX4_o g1) (by decide) (pc2 := 7) rfl ?_
  obtain ⟨x2, ex2, hf⟩ := ltb_s hf
  refine e_istore_n dX6_nextSecond_7 rfl (by decide) ex2.symm (ls' := [(0, .ref 73), (1, .int v1), (2, .int x2)]) [1, 2, 0] rfl (pc2 := 8) rfl ?_
  refine e_iconst (x := 0) dX6_nextSecond_8 (by decide) (pc2 := 9) rfl ?_
  refine e_istore_n dX6_nextSecond_9 rfl (by decide) rfl (ls' := [(0, .ref 73), (1, .int v1), (2, .int x2), (3, .int 0)]) [1, 2, 3, 0] rfl (pc2 := 10) rfl ?_
  refine t_X6_nextSecond_l10 v1 s _ ?_ FU x2 0 hf
  · intro v14 hf
    refine e_iconst (x := 0) dX6_nextSecond_56 (by decide) (pc2 := 57) rfl ?_
    refine e_istore_n dX6_nextSecond_57 rfl (by decide) rfl (ls' := [(0, .ref 73), (1, .int v1), (2, .int v14), (3, .int 0)]) [1, 2, 3, 0] rfl (pc2 := 58) rfl ?_
    refine t_X6_nextSecond_l58 v1 s FU v14 0 hf
abbrev DDX6_coolsWithin : Nat := 1
def f_X6_coolsWithin (v1 : Int32) (s : HS) : Option Int32 :=
  gd (okX4 (s.2.2.2.2.1)) (gd (inb v1 5) (ltb (Rf (Rf (s.2.2.2.2.1) 13) v1.toNatClampNeg) fun o3 => gd (okX7 (s.2.2.2.2.2.1)) (gd (inb v1 5) (gd (okX4 (s.2.2.2.2.1)) (ltb ((s.1 (Rf (s.2.2.2.2.2.1) 4) v1.toNatClampNeg) - (s.1 (s.2.2.2.2.1) 4)) fun x7 => (if (s.1 o3 1) = 2 then some 0 else (if 0 < x7 then (if 0 < (s.1 o3 5) then gd (!((s.1 o3 5) == 0)) (some ((((60 * x7) + (s.1 o3 5)) - 1) / (s.1 o3 5))) else some 1000000) else some 0)))))))
set_option maxRecDepth 20000 in
set_option maxHeartbeats 2000000 in
theorem t_X6_coolsWithin (v1 : Int32) (s : HS) {x : Int32} (hf : f_X6_coolsWithin  v1 s = some x) : Mt DDX6_coolsWithin miX6_coolsWithin [.ref 73, .int v1] NF (hp s) (some (.int x)) NF (hp s) := by
  refine Mt.of (by decide +kernel) (Nat.le_refl _) (Nat.le_of_ble_eq_true rfl) ?_
  show Ev DDX6_coolsWithin miX6_coolsWithin NF (some (.int x)) NF (hp s) 0 NF [(0, .ref 73), (1, .int v1)] [] (hp s)
  unfold f_X6_coolsWithin at hf
  refine e_aload_n dX6_coolsWithin_0 0 rfl rfl (pc2 := 1) rfl ?_
  obtain ⟨g1, hf⟩ := gd_some hf
  refine e_getR (r := s.2.2.2.2.1) fl_X6_33 dX6_coolsWithin_1 so_73 rfl (okX4_ne g1) (pc2 := 4) rfl ?_
  refine e_getR (r := Rf (s.2.2.2.2.1) 13) fl_X6_166 dX6_coolsWithin_4 (okX4_o g1) (okX4_R g1) (isA_ne (okX4_thing g1)) (pc2 := 7) rfl ?_
  refine e_iload_n dX6_coolsWithin_7 1 rfl rfl (pc2 := 8) rfl ?_
  obtain ⟨g2, hf⟩ := gd_some hf
  refine e_aald (r := Rf (Rf (s.2.2.2.2.1) 13) v1.toNatClampNeg) dX6_coolsWithin_8 (okX4_thing g1) (by decide) (inb_v g2) (Rs_na (q := s.2.2) (okX4_thing g1) (by decide)) (okX9_ne (okX4_thing_el g1 (inb_v g2))) (pc2 := 9) rfl ?_
  obtain ⟨o3, eo3, hf⟩ := ltb_s hf
  have ho3 : okX9 o3 = true := by rw [eo3]; exact (okX4_thing_el g1 (inb_v g2))
  refine e_astore_n dX6_coolsWithin_9 rfl (by decide) eo3.symm (ls' := [(0, .ref 73), (1, .int v1), (2, .ref o3)]) [1, 2, 0] rfl (pc2 := 10) rfl ?_
  refine e_aload_n dX6_coolsWithin_10 0 rfl rfl (pc2 := 11) rfl ?_
  obtain ⟨g4, hf⟩ := gd_some hf
  refine e_getR (r := s.2.2.2.2.2.1) fl_X6_37 dX6_coolsWithin_11 so_73 rfl (okX7_ne g4) (pc2 := 14) rfl ?_
  refine e_getR (r := Rf (s.2.2.2.2.2.1) 4) fl_X6_193 dX6_coolsWithin_14 (okX7_o g4) (okX7_R g4) (isA_ne (okX7_hot g4)) (pc2 := 17) rfl ?_
  refine e_iload_n dX6_coolsWithin_17 1 rfl rfl (pc2 := 18) rfl ?_
  obtain ⟨g5, hf⟩ := gd_some hf
  refine e_iald dX6_coolsWithin_18 (okX7_hot g4) (inb_v g5) (pc2 := 19) rfl ?_
  refine e_aload_n dX6_coolsWithin_19 0 rfl rfl (pc2 := 20) rfl ?_
  obtain ⟨g6, hf⟩ := gd_some hf
  refine e_getR (r := s.2.2.2.2.1) fl_X6_33 dX6_coolsWithin_20 so_73 rfl (okX4_ne g6) (pc2 := 23) rfl ?_
  refine e_getI fl_X6_196 dX6_coolsWithin_23 (okX4_o g6) (by decide) (pc2 := 26) rfl ?_
  refine e_isub dX6_coolsWithin_26 (pc2 := 27) rfl ?_
  obtain ⟨x7, ex7, hf⟩ := ltb_s hf
  refine e_istore_n dX6_coolsWithin_27 rfl (by decide) ex7.symm (ls' := [(2, .ref o3), (3, .int x7)]) [3, 0] rfl (pc2 := 28) rfl ?_
  refine e_aload_n dX6_coolsWithin_28 0 rfl rfl (pc2 := 29) rfl ?_
  refine e_getI fl_X6_199 dX6_coolsWithin_29 (okX9_o ho3) (by decide) (pc2 := 32) rfl ?_
  refine e_iconst (x := 2) dX6_coolsWithin_32 (by decide) (pc2 := 33) rfl ?_
  refine e_icmp_eq (tgt := 40) dX6_coolsWithin_33 (by decide) (pc2 := 36) rfl (fun c8 => ?_) (fun c8 => ?_)
  · have hf := if_t c8 hf
    refine e_iconst (x := 0) dX6_coolsWithin_40 (by decide) (pc2 := 41) rfl ?_
    cases hf
    exact e_iret rfl dX6_coolsWithin_41
  · have hf := if_f c8 hf
    refine e_iload_n dX6_coolsWithin_36 1 rfl rfl (pc2 := 37) rfl ?_
    refine e_if_gt (tgt := 42) dX6_coolsWithin_37 (by decide) (pc2 := 40) rfl (fun c9 => ?_) (fun c9 => ?_)
    · have hf := if_t c9 hf
      refine e_aload_n dX6_coolsWithin_42 0 rfl rfl (pc2 := 43) rfl ?_
      refine e_getI fl_X6_202 dX6_coolsWithin_43 (okX9_o ho3) (by decide) (pc2 := 46) rfl ?_
      refine e_if_gt (tgt := 52) dX6_coolsWithin_46 (by decide) (pc2 := 49) rfl (fun c10 => ?_) (fun c10 => ?_)
      · have hf := if_t c10 hf
        refine e_bipush (x := 60) dX6_coolsWithin_52 (by decide) (pc2 := 54) rfl ?_
        refine e_iload_n dX6_coolsWithin_54 1 rfl rfl (pc2 := 55) rfl ?_
        refine e_imul dX6_coolsWithin_55 (pc2 := 56) rfl ?_
        refine e_aload_n dX6_coolsWithin_56 0 rfl rfl (pc2 := 57) rfl ?_
        refine e_getI fl_X6_202 dX6_coolsWithin_57 (okX9_o ho3) (by decide) (pc2 := 60) rfl ?_
        refine e_iadd dX6_coolsWithin_60 (pc2 := 61) rfl ?_
        refine e_iconst (x := 1) dX6_coolsWithin_61 (by decide) (pc2 := 62) rfl ?_
        refine e_isub dX6_coolsWithin_62 (pc2 := 63) rfl ?_
        refine e_aload_n dX6_coolsWithin_63 0 rfl rfl (pc2 := 64) rfl ?_
        refine e_getI fl_X6_202 dX6_coolsWithin_64 (okX9_o ho3) (by decide) (pc2 := 67) rfl ?_
        obtain ⟨g11, hf⟩ := gd_some hf
        refine e_idiv dX6_coolsWithin_67 (ne_g g11) (pc2 := 68) rfl ?_
        cases hf
        exact e_iret rfl dX6_coolsWithin_68
      · have hf := if_f c10 hf
        refine e_ldc dX6_coolsWithin_49 lk_X6_205 (pc2 := 51) rfl ?_
        cases hf
        exact e_iret rfl dX6_coolsWithin_51
    · have hf := if_f c9 hf
      refine e_iconst (x := 0) dX6_coolsWithin_40 (by decide) (pc2 := 41) rfl ?_
      cases hf
      exact e_iret rfl dX6_coolsWithin_41
abbrev DDX6_heatOf : Nat := 1
def f_X6_heatOf (v1 : Int32) (v2 : Int32) (s : HS) : Option Int32 :=
  gd (okX7 (s.2.2.2.2.2.1)) (gd (inb v1 5) (gd (okX4 (s.2.2.2.2.1)) (gd (inb v1 5) (some (imax 0 ((s.1 (Rf (s.2.2.2.2.2.1) 4) v1.toNatClampNeg) - (((s.1 (Rf (Rf (s.2.2.2.2.1) 13) v1.toNatClampNeg) 5) * v2) / 60)))))))
set_option maxRecDepth 20000 in
set_option maxHeartbeats 2000000 in
theorem t_X6_heatOf (v1 : Int32) (v2 : Int32) (s : HS) {x : Int32} (hf : f_X6_heatOf  v1 v2 s = some x) : Mt DDX6_heatOf miX6_heatOf [.ref 73, .int v1, .int v2] NF (hp s) (some (.int x)) NF (hp s) := by
  refine Mt.of (by decide +kernel) (Nat.le_refl _) (Nat.le_of_ble_eq_true rfl) ?_
  show Ev DDX6_heatOf miX6_heatOf NF (some (.int x)) NF (hp s) 0 NF [(0, .ref 73), (1, .int v1), (2, .int v2)] [] (hp s)
  unfold f_X6_heatOf at hf
  refine e_iconst (x := 0) dX6_heatOf_0 (by decide) (pc2 := 1) rfl ?_
  refine e_aload_n dX6_heatOf_1 0 rfl rfl (pc2 := 2) rfl ?_
  obtain ⟨g1, hf⟩ := gd_some hf
  refine e_getR (r := s.2.2.2.2.2.1) fl_X6_37 dX6_heatOf_2 so_73 rfl (okX7_ne g1) (pc2 := 5) rfl ?_
  refine e_getR (r := Rf (s.2.2.2.2.2.1) 4) fl_X6_193 dX6_heatOf_5 (okX7_o g1) (okX7_R g1) (isA_ne (okX7_hot g1)) (pc2 := 8) rfl ?_
  refine e_iload_n dX6_heatOf_8 1 rfl rfl (pc2 := 9) rfl ?_
  obtain ⟨g2, hf⟩ := gd_some hf
  refine e_iald dX6_heatOf_9 (okX7_hot g1) (inb_v g2) (pc2 := 10) rfl ?_
  refine e_aload_n dX6_heatOf_10 0 rfl rfl (pc2 := 11) rfl ?_
  obtain ⟨g3, hf⟩ := gd_some hf
  refine e_getR (r := s.2.2.2.2.1) fl_X6_33 dX6_heatOf_11 so_73 rfl (okX4_ne g3) (pc2 := 14) rfl ?_
  refine e_getR (r := Rf (s.2.2.2.2.1) 13) fl_X6_166 dX6_heatOf_14 (okX4_o g3) (okX4_R g3) (isA_ne (okX4_thing g3)) (pc2 := 17) rfl ?_
  refine e_iload_n dX6_heatOf_17 1 rfl rfl (pc2 := 18) rfl ?_
  obtain ⟨g4, hf⟩ := gd_some hf
  refine e_aald (r := Rf (Rf (s.2.2.2.2.1) 13) v1.toNatClampNeg) dX6_heatOf_18 (okX4_thing g3) (by decide) (inb_v g4) (Rs_na (q := s.2.2) (okX4_thing g3) (by decide)) (okX9_ne (okX4_thing_el g3 (inb_v g4))) (pc2 := 19) rfl ?_
  refine e_getI fl_X6_202 dX6_heatOf_19 (okX9_o (okX4_thing_el g3 (inb_v g4))) (by decide) (pc2 := 22) rfl ?_
  refine e_iload_n dX6_heatOf_22 2 rfl rfl (pc2 := 23) rfl ?_
  refine e_imul dX6_heatOf_23 (pc2 := 24) rfl ?_
  refine e_bipush (x := 60) dX6_heatOf_24 (by decide) (pc2 := 26) rfl ?_
  refine e_idiv dX6_heatOf_26 (by decide) (pc2 := 27) rfl ?_
  refine e_isub dX6_heatOf_27 (pc2 := 28) rfl ?_
  refine e_mmax dX6_heatOf_28 mm_X6_184 (by decide) nn0 (by first | exact Nat.le_of_ble_eq_true rfl | simp [rva_cat, vc_i, vc_r, vc_l, vc_n]) (pc2 := 31) rfl ?_
  cases hf
  exact e_iret rfl dX6_heatOf_31
abbrev DDX6_drink : Nat := 2
def f_X6_drink_j190 (v1 : Int32) (v2 : Nat) (v4 : Int32) (v5 : Int32) (v6 : Int32) (v9 : Int32) (k23 : Int32 → Int32 → Int32 → HS → Option HS) (s : HS) : Option HS :=
  gd (inb v1 6) (gd (inb v1 6) (ltb (sI s 79 (v1.toNatClampNeg) ((s.1 79 v1.toNatClampNeg) ||| ((1 : Int32) <<< (v6 &&& 31)))) fun s17 => ltb (v5 + 1) fun x19 => k23 v9 v4 x19 s17))
set_option maxRecDepth 20000 in
set_option maxHeartbeats 2000000 in
theorem t_X6_drink_j190 (v1 : Int32) (v2 : Nat) (v4 : Int32) (v5 : Int32) (v6 : Int32) (v9 : Int32) (hv2 : okX0 v2 = true) (s : HS) {t : HS} (k23 : Int32 → Int32 → Int32 → HS → Option HS) (hk23 : ∀ (a3 : Int32) (a4 : Int32) (a5 : Int32) (s : HS), k23 a3 a4 a5 s = some t → Ev DDX6_drink miX6_drink NF none NF (hp t) 23 NF [(0, .ref 73), (1, .int v1), (2, .ref v2), (3, .int a3), (4, .int a4), (5, .int a5)] [] (hp s)) (hf : f_X6_drink_j190 v1 v2 v4 v5 v6 v9 k23 s = some t) : Ev DDX6_drink miX6_drink NF none NF (hp t) 190 NF [(0, .ref 73), (1, .int v1), (2, .ref v2), (4, .int v4), (5, .int v5), (6, .int v6), (9, .int v9)] [] (hp s) := by
  refine e_aload_n dX6_drink_190 0 rfl rfl (pc2 := 191) rfl ?_
  refine e_getR (r := 79) fl_X6_27 dX6_drink_191 so_73 (rs_73_13 s.2.2) (by decide) (pc2 := 194) rfl ?_
  refine e_iload_n dX6_drink_194 1 rfl rfl (pc2 := 195) rfl ?_
  refine e_dup2 dX6_drink_195 rfl rfl (pc2 := 196) rfl ?_
  obtain ⟨g16, hf⟩ := gd_some hf
  refine e_iald dX6_drink_196 sa_79 (inb_v g16) (pc2 := 197) rfl ?_
  refine e_iconst (x := 1) dX6_drink_197 (by decide) (pc2 := 198) rfl ?_
  refine e_iload dX6_drink_198 5 rfl (pc2 := 200) rfl ?_
  refine e_ishl dX6_drink_200 (pc2 := 201) rfl ?_
  refine e_ior dX6_drink_201 (pc2 := 202) rfl ?_
  obtain ⟨g18, hf⟩ := gd_some hf
  obtain ⟨s17, es17, hf⟩ := ltb_s hf
  refine e_iast dX6_drink_202 sa_79 (inb_v g18) (h2 := hp s17) (by rw [es17]; rfl) (pc2 := 203) rfl ?_
  refine e_iload dX6_drink_203 6 rfl (pc2 := 205) rfl ?_
  refine e_istore_n dX6_drink_205 rfl (by decide) rfl (ls' := [(0, .ref 73), (1, .int v1), (2, .ref v2), (3, .int v9), (4, .int v4), (5, .int v5)]) [1, 2, 3, 0, 4, 5] rfl (pc2 := 206) rfl ?_
  obtain ⟨x19, ex19, hf⟩ := ltb_s hf
  refine e_iinc dX6_drink_206 5 rfl (c9 := 1) (by decide) ex19.symm (by decide) (ls' := [(0, .ref 73), (1, .int v1), (2, .ref v2), (3, .int v9), (4, .int v4), (5, .int x19)]) [1, 2, 3, 4, 5, 0] rfl (pc2 := 209) rfl ?_
  refine e_goto (tgt := 23) dX6_drink_209 (by decide) ?_
  exact hk23 v9 v4 x19 s17 hf
def f_X6_drink_j163 (v1 : Int32) (v2 : Nat) (v4 : Int32) (v5 : Int32) (v6 : Int32) (v9 : Int32) (k23 : Int32 → Int32 → Int32 → HS → Option HS) (s : HS) : Option HS :=
  gd (inb v1 6) (gd (inb v1 6) (ltb (sI s 78 (v1.toNatClampNeg) ((s.1 78 v1.toNatClampNeg) ||| ((1 : Int32) <<< (v6 &&& 31)))) fun s22 => gd (okX4 (s22.2.2.2.2.1)) (ltb (v9 + (s22.1 (s22.2.2.2.2.1) 5)) fun x25 => ltb (v5 + 1) fun x26 => k23 x25 v4 x26 s22)))
set_option maxRecDepth 20000 in
set_option maxHeartbeats 2000000 in
theorem t_X6_drink_j163 (v1 : Int32) (v2 : Nat) (v4 : Int32) (v5 : Int32) (v6 : Int32) (v9 : Int32) (hv2 : okX0 v2 = true) (s : HS) {t : HS} (k23 : Int32 → Int32 → Int32 → HS → Option HS) (hk23 : ∀ (a3 : Int32) (a4 : Int32) (a5 : Int32) (s : HS), k23 a3 a4 a5 s = some t → Ev DDX6_drink miX6_drink NF none NF (hp t) 23 NF [(0, .ref 73), (1, .int v1), (2, .ref v2), (3, .int a3), (4, .int a4), (5, .int a5)] [] (hp s)) (hf : f_X6_drink_j163 v1 v2 v4 v5 v6 v9 k23 s = some t) : Ev DDX6_drink miX6_drink NF none NF (hp t) 163 NF [(0, .ref 73), (1, .int v1), (2, .ref v2), (4, .int v4), (5, .int v5), (6, .int v6), (9, .int v9)] [] (hp s) := by
  refine e_aload_n dX6_drink_163 0 rfl rfl (pc2 := 164) rfl ?_
  refine e_getR (r := 78) fl_X6_24 dX6_drink_164 so_73 (rs_73_12 s.2.2) (by decide) (pc2 := 167) rfl ?_
  refine e_iload_n dX6_drink_167 1 rfl rfl (pc2 := 168) rfl ?_
  refine e_dup2 dX6_drink_168 rfl rfl (pc2 := 169) rfl ?_
  obtain ⟨g21, hf⟩ := gd_some hf
  refine e_iald dX6_drink_169 sa_78 (inb_v g21) (pc2 := 170) rfl ?_
  refine e_iconst (x := 1) dX6_drink_170 (by decide) (pc2 := 171) rfl ?_
  refine e_iload dX6_drink_171 5 rfl (pc2 := 173) rfl ?_
  refine e_ishl dX6_drink_173 (pc2 := 174) rfl ?_
  refine e_ior dX6_drink_174 (pc2 := 175) rfl ?_
  obtain ⟨g23, hf⟩ := gd_some hf
  obtain ⟨s22, es22, hf⟩ := ltb_s hf
  refine e_iast dX6_drink_175 sa_78 (inb_v g23) (h2 := hp s22) (by rw [es22]; rfl) (pc2 := 176) rfl ?_
  refine e_iload dX6_drink_176 6 rfl (pc2 := 178) rfl ?_
  refine e_aload_n dX6_drink_178 0 rfl rfl (pc2 := 179) rfl ?_
  obtain ⟨g24, hf⟩ := gd_some hf
  refine e_getR (r := s22.2.2.2.2.1) fl_X6_33 dX6_drink_179 so_73 rfl (okX4_ne g24) (pc2 := 182) rfl ?_
  refine e_getI fl_X6_187 dX6_drink_182 (okX4_o g24) (by decide) (pc2 := 185) rfl ?_
  refine e_iadd dX6_drink_185 (pc2 := 186) rfl ?_
  obtain ⟨x25, ex25, hf⟩ := ltb_s hf
  refine e_istore_n dX6_drink_186 rfl (by decide) ex25.symm (ls' := [(0, .ref 73), (1, .int v1), (2, .ref v2), (3, .int x25), (4, .int v4), (5, .int v5)]) [1, 2, 3, 0, 4, 5] rfl (pc2 := 187) rfl ?_
  refine e_goto (tgt := 206) dX6_drink_187 (by decide) ?_
  obtain ⟨x26, ex26, hf⟩ := ltb_s hf
  refine e_iinc dX6_drink_206 5 rfl (c9 := 1) (by decide) ex26.symm (by decide) (ls' := [(0, .ref 73), (1, .int v1), (2, .ref v2), (3, .int x25), (4, .int v4), (5, .int x26)]) [1, 2, 3, 4, 5, 0] rfl (pc2 := 209) rfl ?_
  refine e_goto (tgt := 23) dX6_drink_209 (by decide) ?_
  exact hk23 x25 v4 x26 s22 hf
def f_X6_drink_j135 (v1 : Int32) (v2 : Nat) (v5 : Int32) (v6 : Int32) (v7 : Int32) (v8 : Int32) (v9 : Int32) (w0 : Int32) (k23 : Int32 → Int32 → Int32 → HS → Option HS) (s : HS) : Option HS :=
  (if w0 = 0 then f_X6_drink_j190 v1 v2 w0 v5 v6 v9 k23 s else (if v7 = 0 then f_X6_drink_j163 v1 v2 w0 v5 v6 v9 k23 s else bnd (f_X6_heatOf v6 (v9 - v8) s) fun y27 => (if y27 < 20 then f_X6_drink_j190 v1 v2 w0 v5 v6 v9 k23 s else f_X6_drink_j163 v1 v2 w0 v5 v6 v9 k23 s)))
set_option maxRecDepth 20000 in
set_option maxHeartbeats 2000000 in
theorem t_X6_drink_j135 (v1 : Int32) (v2 : Nat) (v5 : Int32) (v6 : Int32) (v7 : Int32) (v8 : Int32) (v9 : Int32) (w0 : Int32) (hv2 : okX0 v2 = true) (s : HS) {t : HS} (k23 : Int32 → Int32 → Int32 → HS → Option HS) (hk23 : ∀ (a3 : Int32) (a4 : Int32) (a5 : Int32) (s : HS), k23 a3 a4 a5 s = some t → Ev DDX6_drink miX6_drink NF none NF (hp t) 23 NF [(0, .ref 73), (1, .int v1), (2, .ref v2), (3, .int a3), (4, .int a4), (5, .int a5)] [] (hp s)) (hf : f_X6_drink_j135 v1 v2 v5 v6 v7 v8 v9 w0 k23 s = some t) : Ev DDX6_drink miX6_drink NF none NF (hp t) 135 NF [(0, .ref 73), (1, .int v1), (2, .ref v2), (5, .int v5), (6, .int v6), (7, .int v7), (8, .int v8), (9, .int v9)] [.int w0] (hp s) := by
  refine e_istore dX6_drink_135 (by decide) rfl (ls' := [(0, .ref 73), (1, .int v1), (2, .ref v2), (4, .int w0), (5, .int v5), (6, .int v6), (7, .int v7), (8, .int v8), (9, .int v9)]) [1, 2, 3, 0, 4, 5, 6, 7, 8] rfl (pc2 := 137) rfl ?_
  refine e_iload dX6_drink_137 3 rfl (pc2 := 139) rfl ?_
  refine e_if_eq (tgt := 190) dX6_drink_139 (by decide) (pc2 := 142) rfl (fun c15 => ?_) (fun c15 => ?_)
  · have hf := if_t c15 hf
    refine ev_sub [0, 1, 2, 3, 4, 5, 8] rfl ?_
    exact t_X6_drink_j190 v1 v2 w0 v5 v6 v9 hv2 s _ hk23 hf
  · have hf := if_f c15 hf
    refine e_iload dX6_drink_142 6 rfl (pc2 := 144) rfl ?_
    refine e_if_eq (tgt := 163) dX6_drink_144 (by decide) (pc2 := 147) rfl (fun c20 => ?_) (fun c20 => ?_)
    · have hf := if_t c20 hf
      refine ev_sub [0, 1, 2, 3, 4, 5, 8] rfl ?_
      exact t_X6_drink_j163 v1 v2 w0 v5 v6 v9 hv2 s _ hk23 hf
    · have hf := if_f c20 hf
      refine e_aload_n dX6_drink_147 0 rfl rfl (pc2 := 148) rfl ?_
      refine e_iload dX6_drink_148 5 rfl (pc2 := 150) rfl ?_
      refine e_iload dX6_drink_150 8 rfl (pc2 := 152) rfl ?_
      refine e_iload dX6_drink_152 7 rfl (pc2 := 154) rfl ?_
      refine e_isub dX6_drink_154 (pc2 := 155) rfl ?_
      obtain ⟨y27, hy27, hf⟩ := bnd_s hf
      refine e_callVs (t_X6_heatOf v6 (v9 - v8) s hy27) dX6_drink_155 cv_X6_190 rfl so_73 rc_6 (by decide) (by first | exact Nat.le_of_ble_eq_true rfl | simp [rva_cat, vc_i, vc_r, vc_l, vc_n]) nn0 rfl (pc2 := 158) rfl ?_
      refine e_bipush (x := 20) dX6_drink_158 (by decide) (pc2 := 160) rfl ?_
      refine e_icmp_lt (tgt := 190) dX6_drink_160 (by decide) (pc2 := 163) rfl (fun c28 => ?_) (fun c28 => ?_)
      · have hf := if_t c28 hf
        refine ev_sub [0, 1, 2, 3, 4, 5, 8] rfl ?_
        exact t_X6_drink_j190 v1 v2 w0 v5 v6 v9 hv2 s _ hk23 hf
      · have hf := if_f c28 hf
        refine ev_sub [0, 1, 2, 3, 4, 5, 8] rfl ?_
        exact t_X6_drink_j163 v1 v2 w0 v5 v6 v9 hv2 s _ hk23 hf
def f_X6_drink_j134 (v1 : Int32) (v2 : Nat) (v5 : Int32) (v6 : Int32) (v7 : Int32) (v8 : Int32) (v9 : Int32) (k23 : Int32 → Int32 → Int32 → HS → Option HS) (s : HS) : Option HS :=
  f_X6_drink_j135 v1 v2 v5 v6 v7 v8 v9 0 k23 s
set_option maxRecDepth 20000 in
set_option maxHeartbeats 2000000 in
theorem t_X6_drink_j134 (v1 : Int32) (v2 : Nat) (v5 : Int32) (v6 : Int32) (v7 : Int32) (v8 : Int32) (v9 : Int32) (hv2 : okX0 v2 = true) (s : HS) {t : HS} (k23 : Int32 → Int32 → Int32 → HS → Option HS) (hk23 : ∀ (a3 : Int32) (a4 : Int32) (a5 : Int32) (s : HS), k23 a3 a4 a5 s = some t → Ev DDX6_drink miX6_drink NF none NF (hp t) 23 NF [(0, .ref 73), (1, .int v1), (2, .ref v2), (3, .int a3), (4, .int a4), (5, .int a5)] [] (hp s)) (hf : f_X6_drink_j134 v1 v2 v5 v6 v7 v8 v9 k23 s = some t) : Ev DDX6_drink miX6_drink NF none NF (hp t) 134 NF [(0, .ref 73), (1, .int v1), (2, .ref v2), (5, .int v5), (6, .int v6), (7, .int v7), (8, .int v8), (9, .int v9)] [] (hp s) := by
  refine e_iconst (x := 0) dX6_drink_134 (by decide) (pc2 := 135) rfl ?_
  exact t_X6_drink_j135 v1 v2 v5 v6 v7 v8 v9 0 hv2 s _ hk23 hf
def f_X6_drink_j89 (v1 : Int32) (v2 : Nat) (v3 : Int32) (v4 : Int32) (v5 : Int32) (v6 : Int32) (v7 : Int32) (w0 : Int32) (k23 : Int32 → Int32 → Int32 → HS → Option HS) (s : HS) : Option HS :=
  bnd (f_X6_coolsWithin v6 s) fun y12 => ltb (imax v3 (w0 + y12)) fun x13 => (if v4 = 0 then f_X6_drink_j134 v1 v2 v5 v6 v7 w0 x13 k23 s else gd (okX4 (s.2.2.2.2.1)) (gd (inb v1 6) ((if (s.1 75 v1.toNatClampNeg) < (x13 + (s.1 (s.2.2.2.2.1) 5)) then f_X6_drink_j134 v1 v2 v5 v6 v7 w0 x13 k23 s else f_X6_drink_j135 v1 v2 v5 v6 v7 w0 x13 1 k23 s))))
set_option maxRecDepth 20000 in
set_option maxHeartbeats 2000000 in
theorem t_X6_drink_j89 (v1 : Int32) (v2 : Nat) (v3 : Int32) (v4 : Int32) (v5 : Int32) (v6 : Int32) (v7 : Int32) (w0 : Int32) (hv2 : okX0 v2 = true) (s : HS) {t : HS} (k23 : Int32 → Int32 → Int32 → HS → Option HS) (hk23 : ∀ (a3 : Int32) (a4 : Int32) (a5 : Int32) (s : HS), k23 a3 a4 a5 s = some t → Ev DDX6_drink miX6_drink NF none NF (hp t) 23 NF [(0, .ref 73), (1, .int v1), (2, .ref v2), (3, .int a3), (4, .int a4), (5, .int a5)] [] (hp s)) (hf : f_X6_drink_j89 v1 v2 v3 v4 v5 v6 v7 w0 k23 s = some t) : Ev DDX6_drink miX6_drink NF none NF (hp t) 89 NF [(0, .ref 73), (1, .int v1), (2, .ref v2), (3, .int v3), (4, .int v4), (5, .int v5), (6, .int v6), (7, .int v7)] [.int w0] (hp s) := by
  refine e_istore dX6_drink_89 (by decide) rfl (ls' := [(0, .ref 73), (1, .int v1), (2, .ref v2), (3, .int v3), (4, .int v4), (5, .int v5), (6, .int v6), (7, .int v7), (8, .int w0)]) [1, 2, 3, 4, 5, 6, 7, 8, 0] rfl (pc2 := 91) rfl ?_
  refine e_iload_n dX6_drink_91 3 rfl rfl (pc2 := 92) rfl ?_
  refine e_iload dX6_drink_92 8 rfl (pc2 := 94) rfl ?_
  refine e_aload_n dX6_drink_94 0 rfl rfl (pc2 := 95) rfl ?_
  refine e_iload dX6_drink_95 6 rfl (pc2 := 97) rfl ?_
  obtain ⟨y12, hy12, hf⟩ := bnd_s hf
  refine e_callVs (t_X6_coolsWithin v6 s hy12) dX6_drink_97 cv_X6_181 rfl so_73 rc_6 (by decide) (by first | exact Nat.le_of_ble_eq_true rfl | simp [rva_cat, vc_i, vc_r, vc_l, vc_n]) nn0 rfl (pc2 := 100) rfl ?_
  refine e_iadd dX6_drink_100 (pc2 := 101) rfl ?_
  refine e_mmax dX6_drink_101 mm_X6_184 (by decide) nn0 (by first | exact Nat.le_of_ble_eq_true rfl | simp [rva_cat, vc_i, vc_r, vc_l, vc_n]) (pc2 := 104) rfl ?_
  obtain ⟨x13, ex13, hf⟩ := ltb_s hf
  refine e_istore dX6_drink_104 (by decide) ex13.symm (ls' := [(0, .ref 73), (1, .int v1), (2, .ref v2), (4, .int v4), (5, .int v5), (6, .int v6), (7, .int v7), (8, .int w0), (9, .int x13)]) [1, 2, 3, 5, 6, 7, 8, 9, 0] rfl (pc2 := 106) rfl ?_
  refine e_iload dX6_drink_106 3 rfl (pc2 := 108) rfl ?_
  refine e_if_eq (tgt := 134) dX6_drink_108 (by decide) (pc2 := 111) rfl (fun c14 => ?_) (fun c14 => ?_)
  · have hf := if_t c14 hf
    refine ev_sub [0, 1, 2, 4, 5, 6, 7, 8] rfl ?_
    exact t_X6_drink_j134 v1 v2 v5 v6 v7 w0 x13 hv2 s _ hk23 hf
  · have hf := if_f c14 hf
    refine e_iload dX6_drink_111 8 rfl (pc2 := 113) rfl ?_
    refine e_aload_n dX6_drink_113 0 rfl rfl (pc2 := 114) rfl ?_
    obtain ⟨g29, hf⟩ := gd_some hf
    refine e_getR (r := s.2.2.2.2.1) fl_X6_33 dX6_drink_114 so_73 rfl (okX4_ne g29) (pc2 := 117) rfl ?_
    refine e_getI fl_X6_187 dX6_drink_117 (okX4_o g29) (by decide) (pc2 := 120) rfl ?_
    refine e_iadd dX6_drink_120 (pc2 := 121) rfl ?_
    refine e_aload_n dX6_drink_121 0 rfl rfl (pc2 := 122) rfl ?_
    refine e_getR (r := 75) fl_X6_15 dX6_drink_122 so_73 (rs_73_9 s.2.2) (by decide) (pc2 := 125) rfl ?_
    refine e_iload_n dX6_drink_125 1 rfl rfl (pc2 := 126) rfl ?_
    obtain ⟨g30, hf⟩ := gd_some hf
    refine e_iald dX6_drink_126 sa_75 (inb_v g30) (pc2 := 127) rfl ?_
    refine e_icmp_gt (tgt := 134) dX6_drink_127 (by decide) (pc2 := 130) rfl (fun c31 => ?_) (fun c31 => ?_)
    · have hf := if_t c31 hf
      refine ev_sub [0, 1, 2, 4, 5, 6, 7, 8] rfl ?_
      exact t_X6_drink_j134 v1 v2 v5 v6 v7 w0 x13 hv2 s _ hk23 hf
    · have hf := if_f c31 hf
      refine e_iconst (x := 1) dX6_drink_130 (by decide) (pc2 := 131) rfl ?_
      refine e_goto (tgt := 135) dX6_drink_131 (by decide) ?_
      refine ev_sub [0, 1, 2, 4, 5, 6, 7, 8] rfl ?_
      exact t_X6_drink_j135 v1 v2 v5 v6 v7 w0 x13 1 hv2 s _ hk23 hf
def f_X6_drink_j66 (v1 : Int32) (v2 : Nat) (v3 : Int32) (v4 : Int32) (v5 : Int32) (v6 : Int32) (w0 : Int32) (k23 : Int32 → Int32 → Int32 → HS → Option HS) (s : HS) : Option HS :=
  (if w0 = 0 then gd (inb v1 6) (f_X6_drink_j89 v1 v2 v3 v4 v5 v6 w0 (s.1 77 v1.toNatClampNeg) k23 s) else f_X6_drink_j89 v1 v2 v3 v4 v5 v6 w0 ((-60) * (s.1 73 7)) k23 s)
set_option maxRecDepth 20000 in
set_option maxHeartbeats 2000000 in
theorem t_X6_drink_j66 (v1 : Int32) (v2 : Nat) (v3 : Int32) (v4 : Int32) (v5 : Int32) (v6 : Int32) (w0 : Int32) (hv2 : okX0 v2 = true) (s : HS) {t : HS} (k23 : Int32 → Int32 → Int32 → HS → Option HS) (hk23 : ∀ (a3 : Int32) (a4 : Int32) (a5 : Int32) (s : HS), k23 a3 a4 a5 s = some t → Ev DDX6_drink miX6_drink NF none NF (hp t) 23 NF [(0, .ref 73), (1, .int v1), (2, .ref v2), (3, .int a3), (4, .int a4), (5, .int a5)] [] (hp s)) (hf : f_X6_drink_j66 v1 v2 v3 v4 v5 v6 w0 k23 s = some t) : Ev DDX6_drink miX6_drink NF none NF (hp t) 66 NF [(0, .ref 73), (1, .int v1), (2, .ref v2), (3, .int v3), (4, .int v4), (5, .int v5), (6, .int v6)] [.int w0] (hp s) := by
  refine e_istore dX6_drink_66 (by decide) rfl (ls' := [(0, .ref 73), (1, .int v1), (2, .ref v2), (3, .int v3), (4, .int v4), (5, .int v5), (6, .int v6), (7, .int w0)]) [1, 2, 3, 4, 5, 6, 7, 0] rfl (pc2 := 68) rfl ?_
  refine e_iload dX6_drink_68 7 rfl (pc2 := 70) rfl ?_
  refine e_if_eq (tgt := 83) dX6_drink_70 (by decide) (pc2 := 73) rfl (fun c10 => ?_) (fun c10 => ?_)
  · have hf := if_t c10 hf
    refine e_aload_n dX6_drink_83 0 rfl rfl (pc2 := 84) rfl ?_
    refine e_getR (r := 77) fl_X6_21 dX6_drink_84 so_73 (rs_73_11 s.2.2) (by decide) (pc2 := 87) rfl ?_
    refine e_iload_n dX6_drink_87 1 rfl rfl (pc2 := 88) rfl ?_
    obtain ⟨g11, hf⟩ := gd_some hf
    refine e_iald dX6_drink_88 sa_77 (inb_v g11) (pc2 := 89) rfl ?_
    exact t_X6_drink_j89 v1 v2 v3 v4 v5 v6 w0 (s.1 77 v1.toNatClampNeg) hv2 s _ hk23 hf
  · have hf := if_f c10 hf
    refine e_bipush (x := (-60)) dX6_drink_73 (by decide) (pc2 := 75) rfl ?_
    refine e_aload_n dX6_drink_75 0 rfl rfl (pc2 := 76) rfl ?_
    refine e_getI fl_X6_57 dX6_drink_76 so_73 (by decide) (pc2 := 79) rfl ?_
    refine e_imul dX6_drink_79 (pc2 := 80) rfl ?_
    refine e_goto (tgt := 89) dX6_drink_80 (by decide) ?_
    exact t_X6_drink_j89 v1 v2 v3 v4 v5 v6 w0 ((-60) * (s.1 73 7)) hv2 s _ hk23 hf
def f_X6_drink_j65 (v1 : Int32) (v2 : Nat) (v3 : Int32) (v4 : Int32) (v5 : Int32) (v6 : Int32) (k23 : Int32 → Int32 → Int32 → HS → Option HS) (s : HS) : Option HS :=
  f_X6_drink_j66 v1 v2 v3 v4 v5 v6 0 k23 s
set_option maxRecDepth 20000 in
set_option maxHeartbeats 2000000 in
theorem t_X6_drink_j65 (v1 : Int32) (v2 : Nat) (v3 : Int32) (v4 : Int32) (v5 : Int32) (v6 : Int32) (hv2 : okX0 v2 = true) (s : HS) {t : HS} (k23 : Int32 → Int32 → Int32 → HS → Option HS) (hk23 : ∀ (a3 : Int32) (a4 : Int32) (a5 : Int32) (s : HS), k23 a3 a4 a5 s = some t → Ev DDX6_drink miX6_drink NF none NF (hp t) 23 NF [(0, .ref 73), (1, .int v1), (2, .ref v2), (3, .int a3), (4, .int a4), (5, .int a5)] [] (hp s)) (hf : f_X6_drink_j65 v1 v2 v3 v4 v5 v6 k23 s = some t) : Ev DDX6_drink miX6_drink NF none NF (hp t) 65 NF [(0, .ref 73), (1, .int v1), (2, .ref v2), (3, .int v3), (4, .int v4), (5, .int v5), (6, .int v6)] [] (hp s) := by
  refine e_iconst (x := 0) dX6_drink_65 (by decide) (pc2 := 66) rfl ?_
  exact t_X6_drink_j66 v1 v2 v3 v4 v5 v6 0 hv2 s _ hk23 hf
def f_X6_drink_l23b (v1 : Int32) (v2 : Nat) (v3 : Int32) (v4 : Int32) (v5 : Int32) (k23 : Int32 → Int32 → Int32 → HS → Option HS) (s : HS) : Option HS :=
  (if (s.1 v2 6) ≤ v5 then some s else gd (inb v5 3) (ltb (s.1 (Rf v2 5) v5.toNatClampNeg) fun x8 => (if x8 = (s.1 73 5) then (if (((s.1 73 16) >>> (v1 &&& 31)) &&& (1 : Int32)) = 0 then f_X6_drink_j65 v1 v2 v3 v4 v5 x8 k23 s else f_X6_drink_j66 v1 v2 v3 v4 v5 x8 1 k23 s) else f_X6_drink_j65 v1 v2 v3 v4 v5 x8 k23 s)))
set_option maxRecDepth 20000 in
set_option maxHeartbeats 2000000 in
theorem t_X6_drink_l23b (v1 : Int32) (v2 : Nat) (v3 : Int32) (v4 : Int32) (v5 : Int32) (hv2 : okX0 v2 = true) (s : HS) {t : HS} (k23 : Int32 → Int32 → Int32 → HS → Option HS) (hk23 : ∀ (a3 : Int32) (a4 : Int32) (a5 : Int32) (s : HS), k23 a3 a4 a5 s = some t → Ev DDX6_drink miX6_drink NF none NF (hp t) 23 NF [(0, .ref 73), (1, .int v1), (2, .ref v2), (3, .int a3), (4, .int a4), (5, .int a5)] [] (hp s)) (hf : f_X6_drink_l23b v1 v2 v3 v4 v5 k23 s = some t) : Ev DDX6_drink miX6_drink NF none NF (hp t) 23 NF [(0, .ref 73), (1, .int v1), (2, .ref v2), (3, .int v3), (4, .int v4), (5, .int v5)] [] (hp s) := by
  refine e_iload dX6_drink_23 5 rfl (pc2 := 25) rfl ?_
  refine e_aload_n dX6_drink_25 2 rfl rfl (pc2 := 26) rfl ?_
  refine e_getI fl_X6_141 dX6_drink_26 (okX0_o hv2) (by decide) (pc2 := 29) rfl ?_
  refine e_icmp_ge (tgt := 212) dX6_drink_29 (by decide) (pc2 := 32) rfl (fun c6 => ?_) (fun c6 => ?_)
  · have hf := if_t c6 hf
    cases hf
    exact e_vret rfl dX6_drink_212
  · have hf := if_f c6 hf
    refine e_aload_n dX6_drink_32 2 rfl rfl (pc2 := 33) rfl ?_
    refine e_getR (r := Rf v2 5) fl_X6_178 dX6_drink_33 (okX0_o hv2) (okX0_R hv2) (isA_ne (okX0_wants hv2)) (pc2 := 36) rfl ?_
    refine e_iload dX6_drink_36 5 rfl (pc2 := 38) rfl ?_
    obtain ⟨g7, hf⟩ := gd_some hf
    refine e_iald dX6_drink_38 (okX0_wants hv2) (inb_v g7) (pc2 := 39) rfl ?_
    obtain ⟨x8, ex8, hf⟩ := ltb_s hf
    refine e_istore dX6_drink_39 (by decide) ex8.symm (ls' := [(0, .ref 73), (1, .int v1), (2, .ref v2), (3, .int v3), (4, .int v4), (5, .int v5), (6, .int x8)]) [1, 2, 3, 4, 5, 6, 0] rfl (pc2 := 41) rfl ?_
    refine e_iload dX6_drink_41 6 rfl (pc2 := 43) rfl ?_
    refine e_aload_n dX6_drink_43 0 rfl rfl (pc2 := 44) rfl ?_
    refine e_getI fl_X6_51 dX6_drink_44 so_73 (by decide) (pc2 := 47) rfl ?_
    refine e_icmp_ne (tgt := 65) dX6_drink_47 (by decide) (pc2 := 50) rfl (fun c9 => ?_) (fun c9 => ?_)
    · have hf := if_f c9 hf
      exact t_X6_drink_j65 v1 v2 v3 v4 v5 x8 hv2 s _ hk23 hf
    · have hf := if_t c9 hf
      refine e_aload_n dX6_drink_50 0 rfl rfl (pc2 := 51) rfl ?_
      refine e_getI fl_X6_94 dX6_drink_51 so_73 (by decide) (pc2 := 54) rfl ?_
      refine e_iload_n dX6_drink_54 1 rfl rfl (pc2 := 55) rfl ?_
      refine e_ishr dX6_drink_55 (pc2 := 56) rfl ?_
      refine e_iconst (x := 1) dX6_drink_56 (by decide) (pc2 := 57) rfl ?_
      refine e_iand dX6_drink_57 (pc2 := 58) rfl ?_
      refine e_if_eq (tgt := 65) dX6_drink_58 (by decide) (pc2 := 61) rfl (fun c32 => ?_) (fun c32 => ?_)
      · have hf := if_t c32 hf
        exact t_X6_drink_j65 v1 v2 v3 v4 v5 x8 hv2 s _ hk23 hf
      · have hf := if_f c32 hf
        refine e_iconst (x := 1) dX6_drink_61 (by decide) (pc2 := 62) rfl ?_
        refine e_goto (tgt := 66) dX6_drink_62 (by decide) ?_
        exact t_X6_drink_j66 v1 v2 v3 v4 v5 x8 1 hv2 s _ hk23 hf
def f_X6_drink_l23 (v1 : Int32) (v2 : Nat) : Nat → Int32 → Int32 → Int32 → HS → Option HS
  | 0, _, _, _, _ => none
  | n + 1, v3, v4, v5, s => f_X6_drink_l23b v1 v2 v3 v4 v5 (f_X6_drink_l23 v1 v2 n)  s
set_option maxRecDepth 20000 in
set_option maxHeartbeats 2000000 in
theorem t_X6_drink_l23 (v1 : Int32) (v2 : Nat) (hv2 : okX0 v2 = true) {t : HS}  : ∀ (n : Nat) (v3 : Int32) (v4 : Int32) (v5 : Int32) (s : HS), f_X6_drink_l23 v1 v2 n v3 v4 v5 s = some t → Ev DDX6_drink miX6_drink NF none NF (hp t) 23 NF [(0, .ref 73), (1, .int v1), (2, .ref v2), (3, .int v3), (4, .int v4), (5, .int v5)] [] (hp s) := by
  intro n
  induction n with
  | zero =>
    intro v3 v4 v5 s hf
    have hf : none = some t := hf
    cases hf
  | succ n ih =>
    intro v3 v4 v5 s hf
    exact t_X6_drink_l23b v1 v2 v3 v4 v5 hv2 s _ ih  hf
def f_X6_drink (v1 : Int32) (s : HS) : Option HS :=
  gd (okX4 (s.2.2.2.2.1)) (gd (inb v1 6) (ltb (Rf (Rf (s.2.2.2.2.1) 15) v1.toNatClampNeg) fun o3 => gd (inb v1 6) (ltb (s.1 77 v1.toNatClampNeg) fun x5 => f_X6_drink_l23 v1 o3 FU x5 1 0 s)))
set_option maxRecDepth 20000 in
set_option maxHeartbeats 2000000 in
theorem t_X6_drink (v1 : Int32) (s : HS) {t : HS} (hf : f_X6_drink  v1 s = some t) : Mt DDX6_drink miX6_drink [.ref 73, .int v1] NF (hp s) none NF (hp t) := by
  refine Mt.of (by decide +kernel) (Nat.le_refl _) (Nat.le_of_ble_eq_true rfl) ?_
  show Ev DDX6_drink miX6_drink NF none NF (hp t) 0 NF [(0, .ref 73), (1, .int v1)] [] (hp s)
  unfold f_X6_drink at hf
  refine e_aload_n dX6_drink_0 0 rfl rfl (pc2 := 1) rfl ?_
  obtain ⟨g1, hf⟩ := gd_some hf
  refine e_getR (r := s.2.2.2.2.1) fl_X6_33 dX6_drink_1 so_73 rfl (okX4_ne g1) (pc2 := 4) rfl ?_
  refine e_getR (r := Rf (s.2.2.2.2.1) 15) fl_X6_104 dX6_drink_4 (okX4_o g1) (okX4_R g1) (isA_ne (okX4_buyer g1)) (pc2 := 7) rfl ?_
  refine e_iload_n dX6_drink_7 1 rfl rfl (pc2 := 8) rfl ?_
  obtain ⟨g2, hf⟩ := gd_some hf
  refine e_aald (r := Rf (Rf (s.2.2.2.2.1) 15) v1.toNatClampNeg) dX6_drink_8 (okX4_buyer g1) (by decide) (inb_v g2) (Rs_na (q := s.2.2) (okX4_buyer g1) (by decide)) (okX0_ne (okX4_buyer_el g1 (inb_v g2))) (pc2 := 9) rfl ?_
  obtain ⟨o3, eo3, hf⟩ := ltb_s hf
  have ho3 : okX0 o3 = true := by rw [eo3]; exact (okX4_buyer_el g1 (inb_v g2))
  refine e_astore_n dX6_drink_9 rfl (by decide) eo3.symm (ls' := [(0, .ref 73), (1, .int v1), (2, .ref o3)]) [1, 2, 0] rfl (pc2 := 10) rfl ?_
  refine e_aload_n dX6_drink_10 0 rfl rfl (pc2 := 11) rfl ?_
  refine e_getR (r := 77) fl_X6_21 dX6_drink_11 so_73 (rs_73_11 s.2.2) (by decide) (pc2 := 14) rfl ?_
  refine e_iload_n dX6_drink_14 1 rfl rfl (pc2 := 15) rfl ?_
  obtain ⟨g4, hf⟩ := gd_some hf
  refine e_iald dX6_drink_15 sa_77 (inb_v g4) (pc2 := 16) rfl ?_
  obtain ⟨x5, ex5, hf⟩ := ltb_s hf
  refine e_istore_n dX6_drink_16 rfl (by decide) ex5.symm (ls' := [(0, .ref 73), (1, .int v1), (2, .ref o3), (3, .int x5)]) [1, 2, 3, 0] rfl (pc2 := 17) rfl ?_
  refine e_iconst (x := 1) dX6_drink_17 (by decide) (pc2 := 18) rfl ?_
  refine e_istore dX6_drink_18 (by decide) rfl (ls' := [(0, .ref 73), (1, .int v1), (2, .ref o3), (3, .int x5), (4, .int 1)]) [1, 2, 3, 4, 0] rfl (pc2 := 20) rfl ?_
  refine e_iconst (x := 0) dX6_drink_20 (by decide) (pc2 := 21) rfl ?_
  refine e_istore dX6_drink_21 (by decide) rfl (ls' := [(0, .ref 73), (1, .int v1), (2, .ref o3), (3, .int x5), (4, .int 1), (5, .int 0)]) [1, 2, 3, 4, 5, 0] rfl (pc2 := 23) rfl ?_
  refine t_X6_drink_l23 v1 o3 ho3 FU x5 1 0 s hf
abbrev DDX6_endFor : Nat := 3
def f_X6_endFor_j60 (v1 : Int32) (v2 : Int32) (s : HS) : Option HS :=
  gd (okX4 (s.2.2.2.2.1)) (gd (okX7 (s.2.2.2.2.2.1)) (bnd (f_X4_wayOf (s.2.2.2.2.1) v1 (s.1 (s.2.2.2.2.2.1) 2) s) fun y9 => gd (okX4 (s.2.2.2.2.1)) ((if (v2 + y9) ≤ (s.1 (s.2.2.2.2.1) 0) then some s else ltb (sI s 73 15 ((s.1 73 15) ||| ((1 : Int32) <<< (v1 &&& 31)))) fun s12 => some s12))))
set_option maxRecDepth 20000 in
set_option maxHeartbeats 2000000 in
theorem t_X6_endFor_j60 (v1 : Int32) (v2 : Int32) (s : HS) {t : HS}  (hf : f_X6_endFor_j60 v1 v2 s = some t) : Ev DDX6_endFor miX6_endFor NF none NF (hp t) 60 NF [(0, .ref 73), (1, .int v1), (2, .int v2)] [] (hp s) := by
  refine e_iload_n dX6_endFor_60 2 rfl rfl (pc2 := 61) rfl ?_
  refine e_aload_n dX6_endFor_61 0 rfl rfl (pc2 := 62) rfl ?_
  obtain ⟨g7, hf⟩ := gd_some hf
  refine e_getR (r := s.2.2.2.2.1) fl_X6_33 dX6_endFor_62 so_73 rfl (okX4_ne g7) (pc2 := 65) rfl ?_
  refine e_iload_n dX6_endFor_65 1 rfl rfl (pc2 := 66) rfl ?_
  refine e_aload_n dX6_endFor_66 0 rfl rfl (pc2 := 67) rfl ?_
  obtain ⟨g8, hf⟩ := gd_some hf
  refine e_getR (r := s.2.2.2.2.2.1) fl_X6_37 dX6_endFor_67 so_73 rfl (okX7_ne g8) (pc2 := 70) rfl ?_
  refine e_getI fl_X6_97 dX6_endFor_70 (okX7_o g8) (by decide) (pc2 := 73) rfl ?_
  obtain ⟨y9, hy9, hf⟩ := bnd_s hf
  refine e_callVs (t_X4_wayOf (s.2.2.2.2.1) g7 v1 (s.1 (s.2.2.2.2.2.1) 2) s hy9) dX6_endFor_73 cv_X6_100 rfl (okX4_o g7) rc_4 (by decide) (by first | exact Nat.le_of_ble_eq_true rfl | simp [rva_cat, vc_i, vc_r, vc_l, vc_n]) nn0 rfl (pc2 := 76) rfl ?_
  refine e_iadd dX6_endFor_76 (pc2 := 77) rfl ?_
  refine e_aload_n dX6_endFor_77 0 rfl rfl (pc2 := 78) rfl ?_
  obtain ⟨g10, hf⟩ := gd_some hf
  refine e_getR (r := s.2.2.2.2.1) fl_X6_33 dX6_endFor_78 so_73 rfl (okX4_ne g10) (pc2 := 81) rfl ?_
  refine e_getI fl_X6_63 dX6_endFor_81 (okX4_o g10) (by decide) (pc2 := 84) rfl ?_
  refine e_icmp_le (tgt := 99) dX6_endFor_84 (by decide) (pc2 := 87) rfl (fun c11 => ?_) (fun c11 => ?_)
  · have hf := if_t c11 hf
    cases hf
    exact e_vret rfl dX6_endFor_99
  · have hf := if_f c11 hf
    refine e_aload_n dX6_endFor_87 0 rfl rfl (pc2 := 88) rfl ?_
    refine e_dup dX6_endFor_88 rfl (pc2 := 89) rfl ?_
    refine e_getI fl_X6_91 dX6_endFor_89 so_73 (by decide) (pc2 := 92) rfl ?_
    refine e_iconst (x := 1) dX6_endFor_92 (by decide) (pc2 := 93) rfl ?_
    refine e_iload_n dX6_endFor_93 1 rfl rfl (pc2 := 94) rfl ?_
    refine e_ishl dX6_endFor_94 (pc2 := 95) rfl ?_
    refine e_ior dX6_endFor_95 (pc2 := 96) rfl ?_
    obtain ⟨s12, es12, hf⟩ := ltb_s hf
    refine e_putI fl_X6_91 dX6_endFor_96 so_73 fn_6_15 (h2 := hp s12) (by rw [es12]; rfl) (pc2 := 99) rfl ?_
    cases hf
    exact e_vret rfl dX6_endFor_99
def f_X6_endFor (v1 : Int32) (s : HS) : Option HS :=
  gd (inb v1 6) (ltb (s.1 75 v1.toNatClampNeg) fun x2 => gd (inb v1 6) ((if (s.1 77 v1.toNatClampNeg) ≤ x2 then gd (inb v1 6) ((if (s.1 77 v1.toNatClampNeg) = (-1) then f_X6_endFor_j60 v1 x2 s else bnd (f_X6_drink v1 s) fun s14 => f_X6_endFor_j60 v1 x2 s14)) else gd (inb v1 6) (ltb (s.1 77 v1.toNatClampNeg) fun x16 => gd (okX4 (s.2.2.2.2.1)) (gd (inb v1 6) (gd (inb v1 6) (ltb (sI s 79 (v1.toNatClampNeg) (s.1 (Rf (Rf (s.2.2.2.2.1) 15) v1.toNatClampNeg) 7)) fun s19 => f_X6_endFor_j60 v1 x16 s19)))))))
set_option maxRecDepth 20000 in
set_option maxHeartbeats 2000000 in
theorem t_X6_endFor (v1 : Int32) (s : HS) {t : HS} (hf : f_X6_endFor  v1 s = some t) : Mt DDX6_endFor miX6_endFor [.ref 73, .int v1] NF (hp s) none NF (hp t) := by
  refine Mt.of (by decide +kernel) (Nat.le_refl _) (Nat.le_of_ble_eq_true rfl) ?_
  show Ev DDX6_endFor miX6_endFor NF none NF (hp t) 0 NF [(0, .ref 73), (1, .int v1)] [] (hp s)
  unfold f_X6_endFor at hf
  refine e_aload_n dX6_endFor_0 0 rfl rfl (pc2 := 1) rfl ?_
  refine e_getR (r := 75) fl_X6_15 dX6_endFor_1 so_73 (rs_73_9 s.2.2) (by decide) (pc2 := 4) rfl ?_
  refine e_iload_n dX6_endFor_4 1 rfl rfl (pc2 := 5) rfl ?_
  obtain ⟨g1, hf⟩ := gd_some hf
  refine e_iald dX6_endFor_5 sa_75 (inb_v g1) (pc2 := 6) rfl ?_
  obtain ⟨x2, ex2, hf⟩ := ltb_s hf
  refine e_istore_n dX6_endFor_6 rfl (by decide) ex2.symm (ls' := [(0, .ref 73), (1, .int v1), (2, .int x2)]) [1, 2, 0] rfl (pc2 := 7) rfl ?_
  refine e_aload_n dX6_endFor_7 0 rfl rfl (pc2 := 8) rfl ?_
  refine e_getR (r := 77) fl_X6_21 dX6_endFor_8 so_73 (rs_73_11 s.2.2) (by decide) (pc2 := 11) rfl ?_
  refine e_iload_n dX6_endFor_11 1 rfl rfl (pc2 := 12) rfl ?_
  obtain ⟨g3, hf⟩ := gd_some hf
  refine e_iald dX6_endFor_12 sa_77 (inb_v g3) (pc2 := 13) rfl ?_
  refine e_iload_n dX6_endFor_13 2 rfl rfl (pc2 := 14) rfl ?_
  refine e_icmp_le (tgt := 45) dX6_endFor_14 (by decide) (pc2 := 17) rfl (fun c4 => ?_) (fun c4 => ?_)
  · have hf := if_t c4 hf
    refine e_aload_n dX6_endFor_45 0 rfl rfl (pc2 := 46) rfl ?_
    refine e_getR (r := 77) fl_X6_21 dX6_endFor_46 so_73 (rs_73_11 s.2.2) (by decide) (pc2 := 49) rfl ?_
    refine e_iload_n dX6_endFor_49 1 rfl rfl (pc2 := 50) rfl ?_
    obtain ⟨g5, hf⟩ := gd_some hf
    refine e_iald dX6_endFor_50 sa_77 (inb_v g5) (pc2 := 51) rfl ?_
    refine e_iconst (x := (-1)) dX6_endFor_51 (by decide) (pc2 := 52) rfl ?_
    refine e_icmp_eq (tgt := 60) dX6_endFor_52 (by decide) (pc2 := 55) rfl (fun c6 => ?_) (fun c6 => ?_)
    · have hf := if_t c6 hf
      exact t_X6_endFor_j60 v1 x2 s hf
    · have hf := if_f c6 hf
      refine e_aload_n dX6_endFor_55 0 rfl rfl (pc2 := 56) rfl ?_
      refine e_iload_n dX6_endFor_56 1 rfl rfl (pc2 := 57) rfl ?_
      obtain ⟨s14, hy13, hf⟩ := bnd_s hf
      refine e_callVn (t_X6_drink v1 s hy13) dX6_endFor_57 cv_X6_175 rfl so_73 rc_6 (by decide) (by first | exact Nat.le_of_ble_eq_true rfl | simp [rva_cat, vc_i, vc_r, vc_l, vc_n]) nn0 rfl (pc2 := 60) rfl ?_
      exact t_X6_endFor_j60 v1 x2 s14 hf
  · have hf := if_f c4 hf
    refine e_aload_n dX6_endFor_17 0 rfl rfl (pc2 := 18) rfl ?_
    refine e_getR (r := 77) fl_X6_21 dX6_endFor_18 so_73 (rs_73_11 s.2.2) (by decide) (pc2 := 21) rfl ?_
    refine e_iload_n dX6_endFor_21 1 rfl rfl (pc2 := 22) rfl ?_
    obtain ⟨g15, hf⟩ := gd_some hf
    refine e_iald dX6_endFor_22 sa_77 (inb_v g15) (pc2 := 23) rfl ?_
    obtain ⟨x16, ex16, hf⟩ := ltb_s hf
    refine e_istore_n dX6_endFor_23 rfl (by decide) ex16.symm (ls' := [(0, .ref 73), (1, .int v1), (2, .int x16)]) [1, 2, 0] rfl (pc2 := 24) rfl ?_
    refine e_aload_n dX6_endFor_24 0 rfl rfl (pc2 := 25) rfl ?_
    refine e_getR (r := 79) fl_X6_27 dX6_endFor_25 so_73 (rs_73_13 s.2.2) (by decide) (pc2 := 28) rfl ?_
    refine e_iload_n dX6_endFor_28 1 rfl rfl (pc2 := 29) rfl ?_
    refine e_aload_n dX6_endFor_29 0 rfl rfl (pc2 := 30) rfl ?_
    obtain ⟨g17, hf⟩ := gd_some hf
    refine e_getR (r := s.2.2.2.2.1) fl_X6_33 dX6_endFor_30 so_73 rfl (okX4_ne g17) (pc2 := 33) rfl ?_
    refine e_getR (r := Rf (s.2.2.2.2.1) 15) fl_X6_104 dX6_endFor_33 (okX4_o g17) (okX4_R g17) (isA_ne (okX4_buyer g17)) (pc2 := 36) rfl ?_
    refine e_iload_n dX6_endFor_36 1 rfl rfl (pc2 := 37) rfl ?_
    obtain ⟨g18, hf⟩ := gd_some hf
    refine e_aald (r := Rf (Rf (s.2.2.2.2.1) 15) v1.toNatClampNeg) dX6_endFor_37 (okX4_buyer g17) (by decide) (inb_v g18) (Rs_na (q := s.2.2) (okX4_buyer g17) (by decide)) (okX0_ne (okX4_buyer_el g17 (inb_v g18))) (pc2 := 38) rfl ?_
    refine e_getI fl_X6_163 dX6_endFor_38 (okX0_o (okX4_buyer_el g17 (inb_v g18))) (by decide) (pc2 := 41) rfl ?_
    obtain ⟨g20, hf⟩ := gd_some hf
    obtain ⟨s19, es19, hf⟩ := ltb_s hf
    refine e_iast dX6_endFor_41 sa_79 (inb_v g20) (h2 := hp s19) (by rw [es19]; rfl) (pc2 := 42) rfl ?_
    refine e_goto (tgt := 60) dX6_endFor_42 (by decide) ?_
    exact t_X6_endFor_j60 v1 x16 s19 hf
abbrev DDX6_play : Nat := 5
def f_X6_play_l8b (v1 : Int32) (v2 : Int32) (k8 : Int32 → Int32 → HS → Option HS) (k43 : HS → Option HS) (s : HS) : Option HS :=
  (if 900 < v2 then k43 s else gd (okX4 (s.2.2.2.2.1)) ((if (s.1 (s.2.2.2.2.1) 0) ≤ v1 then k43 s else bnd (f_X6_serveWaiting v1 s) fun s7 => bnd (f_X6_nextSecond v1 s7) fun y8 => ltb (v2 + 1) fun x9 => k8 y8 x9 s7)))
set_option maxRecDepth 20000 in
set_option maxHeartbeats 2000000 in
theorem t_X6_play_l8b (v1 : Int32) (v2 : Int32) (s : HS) {t : HS} (k8 : Int32 → Int32 → HS → Option HS) (hk8 : ∀ (a1 : Int32) (a2 : Int32) (s : HS), k8 a1 a2 s = some t → Ev DDX6_play miX6_play NF none NF (hp t) 8 NF [(0, .ref 73), (1, .int a1), (2, .int a2)] [] (hp s)) (k43 : HS → Option HS) (hk43 : ∀ (s : HS), k43 s = some t → Ev DDX6_play miX6_play NF none NF (hp t) 43 NF [(0, .ref 73)] [] (hp s)) (hf : f_X6_play_l8b v1 v2 k8 k43 s = some t) : Ev DDX6_play miX6_play NF none NF (hp t) 8 NF [(0, .ref 73), (1, .int v1), (2, .int v2)] [] (hp s) := by
  refine e_iload_n dX6_play_8 2 rfl rfl (pc2 := 9) rfl ?_
  refine e_sipush (x := 900) dX6_play_9 (by decide) (pc2 := 12) rfl ?_
  refine e_icmp_gt (tgt := 43) dX6_play_12 (by decide) (pc2 := 15) rfl (fun c3 => ?_) (fun c3 => ?_)
  · have hf := if_t c3 hf
    refine ev_sub [0] rfl ?_
    exact hk43 s hf
  · have hf := if_f c3 hf
    refine e_iload_n dX6_play_15 1 rfl rfl (pc2 := 16) rfl ?_
    refine e_aload_n dX6_play_16 0 rfl rfl (pc2 := 17) rfl ?_
    obtain ⟨g4, hf⟩ := gd_some hf
    refine e_getR (r := s.2.2.2.2.1) fl_X6_33 dX6_play_17 so_73 rfl (okX4_ne g4) (pc2 := 20) rfl ?_
    refine e_getI fl_X6_63 dX6_play_20 (okX4_o g4) (by decide) (pc2 := 23) rfl ?_
    refine e_icmp_ge (tgt := 43) dX6_play_23 (by decide) (pc2 := 26) rfl (fun c5 => ?_) (fun c5 => ?_)
    · have hf := if_t c5 hf
      refine ev_sub [0] rfl ?_
      exact hk43 s hf
    · have hf := if_f c5 hf
      refine e_aload_n dX6_play_26 0 rfl rfl (pc2 := 27) rfl ?_
      refine e_iload_n dX6_play_27 1 rfl rfl (pc2 := 28) rfl ?_
      obtain ⟨s7, hy6, hf⟩ := bnd_s hf
      refine e_callVn (t_X6_serveWaiting v1 s hy6) dX6_play_28 cv_X6_68 rfl so_73 rc_6 (by decide) (by first | exact Nat.le_of_ble_eq_true rfl | simp [rva_cat, vc_i, vc_r, vc_l, vc_n]) nn0 rfl (pc2 := 31) rfl ?_
      refine e_aload_n dX6_play_31 0 rfl rfl (pc2 := 32) rfl ?_
      refine e_iload_n dX6_play_32 1 rfl rfl (pc2 := 33) rfl ?_
      obtain ⟨y8, hy8, hf⟩ := bnd_s hf
      refine e_callVs (t_X6_nextSecond v1 s7 hy8) dX6_play_33 cv_X6_72 rfl so_73 rc_6 (by decide) (by first | exact Nat.le_of_ble_eq_true rfl | simp [rva_cat, vc_i, vc_r, vc_l, vc_n]) nn0 rfl (pc2 := 36) rfl ?_
      refine e_istore_n dX6_play_36 rfl (by decide) rfl (ls' := [(0, .ref 73), (1, .int y8), (2, .int v2)]) [1, 0, 2] rfl (pc2 := 37) rfl ?_
      obtain ⟨x9, ex9, hf⟩ := ltb_s hf
      refine e_iinc dX6_play_37 2 rfl (c9 := 1) (by decide) ex9.symm (by decide) (ls' := [(0, .ref 73), (1, .int y8), (2, .int x9)]) [1, 2, 0] rfl (pc2 := 40) rfl ?_
      refine e_goto (tgt := 8) dX6_play_40 (by decide) ?_
      exact hk8 y8 x9 s7 hf
def f_X6_play_l8 (k43 : HS → Option HS) : Nat → Int32 → Int32 → HS → Option HS
  | 0, _, _, _ => none
  | n + 1, v1, v2, s => f_X6_play_l8b v1 v2 (f_X6_play_l8 k43 n) k43 s
set_option maxRecDepth 20000 in
set_option maxHeartbeats 2000000 in
theorem t_X6_play_l8  {t : HS} (k43 : HS → Option HS) (hk43 : ∀ (s : HS), k43 s = some t → Ev DDX6_play miX6_play NF none NF (hp t) 43 NF [(0, .ref 73)] [] (hp s)) : ∀ (n : Nat) (v1 : Int32) (v2 : Int32) (s : HS), f_X6_play_l8 k43 n v1 v2 s = some t → Ev DDX6_play miX6_play NF none NF (hp t) 8 NF [(0, .ref 73), (1, .int v1), (2, .int v2)] [] (hp s) := by
  intro n
  induction n with
  | zero =>
    intro v1 v2 s hf
    have hf : none = some t := hf
    cases hf
  | succ n ih =>
    intro v1 v2 s hf
    exact t_X6_play_l8b v1 v2  s _ ih _ hk43 hf
def f_X6_play_l45b (v2 : Int32) (k45 : Int32 → HS → Option HS) (s : HS) : Option HS :=
  gd (okX4 (s.2.2.2.2.1)) ((if (s.1 (s.2.2.2.2.1) 14) ≤ v2 then some s else bnd (f_X6_isOut v2 s) fun y13 => (if y13 = 0 then ltb (v2 + 1) fun x15 => k45 x15 s else bnd (f_X6_endFor v2 s) fun s17 => ltb (v2 + 1) fun x18 => k45 x18 s17)))
set_option maxRecDepth 20000 in
set_option maxHeartbeats 2000000 in
theorem t_X6_play_l45b (v2 : Int32) (s : HS) {t : HS} (k45 : Int32 → HS → Option HS) (hk45 : ∀ (a2 : Int32) (s : HS), k45 a2 s = some t → Ev DDX6_play miX6_play NF none NF (hp t) 45 NF [(0, .ref 73), (2, .int a2)] [] (hp s)) (hf : f_X6_play_l45b v2 k45 s = some t) : Ev DDX6_play miX6_play NF none NF (hp t) 45 NF [(0, .ref 73), (2, .int v2)] [] (hp s) := by
  refine e_iload_n dX6_play_45 1 rfl rfl (pc2 := 46) rfl ?_
  refine e_aload_n dX6_play_46 0 rfl rfl (pc2 := 47) rfl ?_
  obtain ⟨g11, hf⟩ := gd_some hf
  refine e_getR (r := s.2.2.2.2.1) fl_X6_33 dX6_play_47 so_73 rfl (okX4_ne g11) (pc2 := 50) rfl ?_
  refine e_getI fl_X6_76 dX6_play_50 (okX4_o g11) (by decide) (pc2 := 53) rfl ?_
  refine e_icmp_ge (tgt := 75) dX6_play_53 (by decide) (pc2 := 56) rfl (fun c12 => ?_) (fun c12 => ?_)
  · have hf := if_t c12 hf
    cases hf
    exact e_vret rfl dX6_play_75
  · have hf := if_f c12 hf
    refine e_aload_n dX6_play_56 0 rfl rfl (pc2 := 57) rfl ?_
    refine e_iload_n dX6_play_57 1 rfl rfl (pc2 := 58) rfl ?_
    obtain ⟨y13, hy13, hf⟩ := bnd_s hf
    refine e_callVs (t_X6_isOut v2 s hy13) dX6_play_58 cv_X6_79 rfl so_73 rc_6 (by decide) (by first | exact Nat.le_of_ble_eq_true rfl | simp [rva_cat, vc_i, vc_r, vc_l, vc_n]) nn0 rfl (pc2 := 61) rfl ?_
    refine e_if_eq (tgt := 69) dX6_play_61 (by decide) (pc2 := 64) rfl (fun c14 => ?_) (fun c14 => ?_)
    · have hf := if_t c14 hf
      obtain ⟨x15, ex15, hf⟩ := ltb_s hf
      refine e_iinc dX6_play_69 1 rfl (c9 := 1) (by decide) ex15.symm (by decide) (ls' := [(0, .ref 73), (2, .int x15)]) [1, 0] rfl (pc2 := 72) rfl ?_
      refine e_goto (tgt := 45) dX6_play_72 (by decide) ?_
      exact hk45 x15 s hf
    · have hf := if_f c14 hf
      refine e_aload_n dX6_play_64 0 rfl rfl (pc2 := 65) rfl ?_
      refine e_iload_n dX6_play_65 1 rfl rfl (pc2 := 66) rfl ?_
      obtain ⟨s17, hy16, hf⟩ := bnd_s hf
      refine e_callVn (t_X6_endFor v2 s hy16) dX6_play_66 cv_X6_83 rfl so_73 rc_6 (by decide) (by first | exact Nat.le_of_ble_eq_true rfl | simp [rva_cat, vc_i, vc_r, vc_l, vc_n]) nn0 rfl (pc2 := 69) rfl ?_
      obtain ⟨x18, ex18, hf⟩ := ltb_s hf
      refine e_iinc dX6_play_69 1 rfl (c9 := 1) (by decide) ex18.symm (by decide) (ls' := [(0, .ref 73), (2, .int x18)]) [1, 0] rfl (pc2 := 72) rfl ?_
      refine e_goto (tgt := 45) dX6_play_72 (by decide) ?_
      exact hk45 x18 s17 hf
def f_X6_play_l45  : Nat → Int32 → HS → Option HS
  | 0, _, _ => none
  | n + 1, v2, s => f_X6_play_l45b v2 (f_X6_play_l45  n)  s
set_option maxRecDepth 20000 in
set_option maxHeartbeats 2000000 in
theorem t_X6_play_l45  {t : HS}  : ∀ (n : Nat) (v2 : Int32) (s : HS), f_X6_play_l45  n v2 s = some t → Ev DDX6_play miX6_play NF none NF (hp t) 45 NF [(0, .ref 73), (2, .int v2)] [] (hp s) := by
  intro n
  induction n with
  | zero =>
    intro v2 s hf
    have hf : none = some t := hf
    cases hf
  | succ n ih =>
    intro v2 s hf
    exact t_X6_play_l45b v2  s _ ih  hf
def f_X6_play_j43  (s : HS) : Option HS :=
  f_X6_play_l45 FU 0 s
set_option maxRecDepth 20000 in
set_option maxHeartbeats 2000000 in
theorem t_X6_play_j43  (s : HS) {t : HS}  (hf : f_X6_play_j43 s = some t) : Ev DDX6_play miX6_play NF none NF (hp t) 43 NF [(0, .ref 73)] [] (hp s) := by
  refine e_iconst (x := 0) dX6_play_43 (by decide) (pc2 := 44) rfl ?_
  refine e_istore_n dX6_play_44 rfl (by decide) rfl (ls' := [(0, .ref 73), (2, .int 0)]) [1, 0] rfl (pc2 := 45) rfl ?_
  refine t_X6_play_l45 FU 0 s hf
def f_X6_play  (s : HS) : Option HS :=
  bnd (f_X6_makeReady s) fun s2 => f_X6_play_l8 (fun s10 => f_X6_play_j43 s10) FU 0 0 s2
set_option maxRecDepth 20000 in
set_option maxHeartbeats 2000000 in
theorem t_X6_play  (s : HS) {t : HS} (hf : f_X6_play  s = some t) : Mt DDX6_play miX6_play [.ref 73] NF (hp s) none NF (hp t) := by
  refine Mt.of (by decide +kernel) (Nat.le_refl _) (Nat.le_of_ble_eq_true rfl) ?_
  show Ev DDX6_play miX6_play NF none NF (hp t) 0 NF [(0, .ref 73)] [] (hp s)
  unfold f_X6_play at hf
  refine e_aload_n dX6_play_0 0 rfl rfl (pc2 := 1) rfl ?_
  obtain ⟨s2, hy1, hf⟩ := bnd_s hf
  refine e_callVn (t_X6_makeReady  s hy1) dX6_play_1 cv_X6_60 rfl so_73 rc_6 (by decide) (by first | exact Nat.le_of_ble_eq_true rfl | simp [rva_cat, vc_i, vc_r, vc_l, vc_n]) nn0 rfl (pc2 := 4) rfl ?_
  refine e_iconst (x := 0) dX6_play_4 (by decide) (pc2 := 5) rfl ?_
  refine e_istore_n dX6_play_5 rfl (by decide) rfl (ls' := [(0, .ref 73), (1, .int 0)]) [1, 0] rfl (pc2 := 6) rfl ?_
  refine e_iconst (x := 0) dX6_play_6 (by decide) (pc2 := 7) rfl ?_
  refine e_istore_n dX6_play_7 rfl (by decide) rfl (ls' := [(0, .ref 73), (1, .int 0), (2, .int 0)]) [1, 2, 0] rfl (pc2 := 8) rfl ?_
  refine t_X6_play_l8 _ ?_ FU 0 0 s2 hf
  · intro s10 hf
    exact t_X6_play_j43 s10 hf
abbrev DDX6_paid : Nat := 2
def f_X6_paid_l4b (v1 : Int32) (v2 : Int32) (k4 : Int32 → Int32 → Option Int32) (s : HS) : Option Int32 :=
  gd (okX4 (s.2.2.2.2.1)) ((if (s.1 (s.2.2.2.2.1) 14) ≤ v2 then some v1 else gd (inb v2 6) ((if (s.1 77 v2.toNatClampNeg) = (-1) then ltb (v1 + 0) fun x5 => ltb (v2 + 1) fun x6 => k4 x5 x6 else gd (okX4 (s.2.2.2.2.1)) (bnd (f_X4_priceFor (s.2.2.2.2.1) v2 s) fun y8 => ltb (v1 + y8) fun x9 => ltb (v2 + 1) fun x10 => k4 x9 x10)))))
set_option maxRecDepth 20000 in
set_option maxHeartbeats 2000000 in
theorem t_X6_paid_l4b (v1 : Int32) (v2 : Int32) (s : HS) {x : Int32} (k4 : Int32 → Int32 → Option Int32) (hk4 : ∀ (a1 : Int32) (a2 : Int32), k4 a1 a2 = some x → Ev DDX6_paid miX6_paid NF (some (.int x)) NF (hp s) 4 NF [(0, .ref 73), (1, .int a1), (2, .int a2)] [] (hp s)) (hf : f_X6_paid_l4b v1 v2 k4 s = some x) : Ev DDX6_paid miX6_paid NF (some (.int x)) NF (hp s) 4 NF [(0, .ref 73), (1, .int v1), (2, .int v2)] [] (hp s) := by
  refine e_iload_n dX6_paid_4 2 rfl rfl (pc2 := 5) rfl ?_
  refine e_aload_n dX6_paid_5 0 rfl rfl (pc2 := 6) rfl ?_
  obtain ⟨g1, hf⟩ := gd_some hf
  refine e_getR (r := s.2.2.2.2.1) fl_X6_33 dX6_paid_6 so_73 rfl (okX4_ne g1) (pc2 := 9) rfl ?_
  refine e_getI fl_X6_76 dX6_paid_9 (okX4_o g1) (by decide) (pc2 := 12) rfl ?_
  refine e_icmp_ge (tgt := 46) dX6_paid_12 (by decide) (pc2 := 15) rfl (fun c2 => ?_) (fun c2 => ?_)
  · have hf := if_t c2 hf
    refine e_iload_n dX6_paid_46 1 rfl rfl (pc2 := 47) rfl ?_
    cases hf
    exact e_iret rfl dX6_paid_47
  · have hf := if_f c2 hf
    refine e_iload_n dX6_paid_15 1 rfl rfl (pc2 := 16) rfl ?_
    refine e_aload_n dX6_paid_16 0 rfl rfl (pc2 := 17) rfl ?_
    refine e_getR (r := 77) fl_X6_21 dX6_paid_17 so_73 (rs_73_11 s.2.2) (by decide) (pc2 := 20) rfl ?_
    refine e_iload_n dX6_paid_20 2 rfl rfl (pc2 := 21) rfl ?_
    obtain ⟨g3, hf⟩ := gd_some hf
    refine e_iald dX6_paid_21 sa_77 (inb_v g3) (pc2 := 22) rfl ?_
    refine e_iconst (x := (-1)) dX6_paid_22 (by decide) (pc2 := 23) rfl ?_
    refine e_icmp_eq (tgt := 37) dX6_paid_23 (by decide) (pc2 := 26) rfl (fun c4 => ?_) (fun c4 => ?_)
    · have hf := if_t c4 hf
      refine e_iconst (x := 0) dX6_paid_37 (by decide) (pc2 := 38) rfl ?_
      refine e_iadd dX6_paid_38 (pc2 := 39) rfl ?_
      obtain ⟨x5, ex5, hf⟩ := ltb_s hf
      refine e_istore_n dX6_paid_39 rfl (by decide) ex5.symm (ls' := [(0, .ref 73), (1, .int x5), (2, .int v2)]) [1, 0, 2] rfl (pc2 := 40) rfl ?_
      obtain ⟨x6, ex6, hf⟩ := ltb_s hf
      refine e_iinc dX6_paid_40 2 rfl (c9 := 1) (by decide) ex6.symm (by decide) (ls' := [(0, .ref 73), (1, .int x5), (2, .int x6)]) [1, 2, 0] rfl (pc2 := 43) rfl ?_
      refine e_goto (tgt := 4) dX6_paid_43 (by decide) ?_
      exact hk4 x5 x6 hf
    · have hf := if_f c4 hf
      refine e_aload_n dX6_paid_26 0 rfl rfl (pc2 := 27) rfl ?_
      obtain ⟨g7, hf⟩ := gd_some hf
      refine e_getR (r := s.2.2.2.2.1) fl_X6_33 dX6_paid_27 so_73 rfl (okX4_ne g7) (pc2 := 30) rfl ?_
      refine e_iload_n dX6_paid_30 2 rfl rfl (pc2 := 31) rfl ?_
      obtain ⟨y8, hy8, hf⟩ := bnd_s hf
      refine e_callVs (t_X4_priceFor (s.2.2.2.2.1) g7 v2 s hy8) dX6_paid_31 cv_X6_206 rfl (okX4_o g7) rc_4 (by decide) (by first | exact Nat.le_of_ble_eq_true rfl | simp [rva_cat, vc_i, vc_r, vc_l, vc_n]) nn0 rfl (pc2 := 34) rfl ?_
      refine e_goto (tgt := 38) dX6_paid_34 (by decide) ?_
      refine e_iadd dX6_paid_38 (pc2 := 39) rfl ?_
      obtain ⟨x9, ex9, hf⟩ := ltb_s hf
      refine e_istore_n dX6_paid_39 rfl (by decide) ex9.symm (ls' := [(0, .ref 73), (1, .int x9), (2, .int v2)]) [1, 0, 2] rfl (pc2 := 40) rfl ?_
      obtain ⟨x10, ex10, hf⟩ := ltb_s hf
      refine e_iinc dX6_paid_40 2 rfl (c9 := 1) (by decide) ex10.symm (by decide) (ls' := [(0, .ref 73), (1, .int x9), (2, .int x10)]) [1, 2, 0] rfl (pc2 := 43) rfl ?_
      refine e_goto (tgt := 4) dX6_paid_43 (by decide) ?_
      exact hk4 x9 x10 hf
def f_X6_paid_l4  (s : HS) : Nat → Int32 → Int32 → Option Int32
  | 0, _, _ => none
  | n + 1, v1, v2 => f_X6_paid_l4b v1 v2 (f_X6_paid_l4 s n)  s
set_option maxRecDepth 20000 in
set_option maxHeartbeats 2000000 in
theorem t_X6_paid_l4  (s : HS) {x : Int32}  : ∀ (n : Nat) (v1 : Int32) (v2 : Int32), f_X6_paid_l4 s n v1 v2 = some x → Ev DDX6_paid miX6_paid NF (some (.int x)) NF (hp s) 4 NF [(0, .ref 73), (1, .int v1), (2, .int v2)] [] (hp s) := by
  intro n
  induction n with
  | zero =>
    intro v1 v2 hf
    have hf : none = some x := hf
    cases hf
  | succ n ih =>
    intro v1 v2 hf
    exact t_X6_paid_l4b v1 v2  s _ ih  hf
def f_X6_paid  (s : HS) : Option Int32 :=
  f_X6_paid_l4 s FU 0 0
set_option maxRecDepth 20000 in
set_option maxHeartbeats 2000000 in
theorem t_X6_paid  (s : HS) {x : Int32} (hf : f_X6_paid  s = some x) : Mt DDX6_paid miX6_paid [.ref 73] NF (hp s) (some (.int x)) NF (hp s) := by
  refine Mt.of (by decide +kernel) (Nat.le_refl _) (Nat.le_of_ble_eq_true rfl) ?_
  show Ev DDX6_paid miX6_paid NF (some (.int x)) NF (hp s) 0 NF [(0, .ref 73)] [] (hp s)
  unfold f_X6_paid at hf
  refine e_iconst (x := 0) dX6_paid_0 (by decide) (pc2 := 1) rfl ?_
  refine e_istore_n dX6_paid_1 rfl (by decide) rfl (ls' := [(0, .ref 73), (1, .int 0)]) [1, 0] rfl (pc2 := 2) rfl ?_
  refine e_iconst (x := 0) dX6_paid_2 (by decide) (pc2 := 3) rfl ?_
  refine e_istore_n dX6_paid_3 rfl (by decide) rfl (ls' := [(0, .ref 73), (1, .int 0), (2, .int 0)]) [1, 2, 0] rfl (pc2 := 4) rfl ?_
  refine t_X6_paid_l4 s FU 0 0 hf
