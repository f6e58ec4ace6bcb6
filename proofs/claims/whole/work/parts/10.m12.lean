abbrev DDX12_laysTold : Nat := 1
def f_X12_laysTold_l26b (v1 : Int32) (v2 : Int32) (v3 : Int32) (k26 : Int32 → HS → Option HS) (k82 : HS → Option HS) (s : HS) : Option HS :=
  (if 10 ≤ v3 then k82 s else gd (inb ((10 * v1) + v3) 50) (gd (inb ((10 * v2) + v3) 50) (ltb (sI s 140 (((10 * v2) + v3).toNatClampNeg) (s.1 140 ((10 * v1) + v3).toNatClampNeg)) fun s9 => gd (inb ((10 * v1) + v3) 50) (gd (inb ((10 * v2) + v3) 50) (ltb (sI s9 141 (((10 * v2) + v3).toNatClampNeg) (s9.1 141 ((10 * v1) + v3).toNatClampNeg)) fun s12 => ltb (v3 + 1) fun x14 => k26 x14 s12)))))
set_option maxRecDepth 20000 in
set_option maxHeartbeats 2000000 in
theorem t_X12_laysTold_l26b (v1 : Int32) (v2 : Int32) (v3 : Int32) (s : HS) {t : HS} (k26 : Int32 → HS → Option HS) (hk26 : ∀ (a3 : Int32) (s : HS), k26 a3 s = some t → Ev DDX12_laysTold miX12_laysTold NF none NF (hp t) 26 NF [(0, .ref 101), (1, .int v1), (2, .int v2), (3, .int a3)] [] (hp s)) (k82 : HS → Option HS) (hk82 : ∀ (s : HS), k82 s = some t → Ev DDX12_laysTold miX12_laysTold NF none NF (hp t) 82 NF [(0, .ref 101), (1, .int v1), (2, .int v2)] [] (hp s)) (hf : f_X12_laysTold_l26b v1 v2 v3 k26 k82 s = some t) : Ev DDX12_laysTold miX12_laysTold NF none NF (hp t) 26 NF [(0, .ref 101), (1, .int v1), (2, .int v2), (3, .int v3)] [] (hp s) := by
  refine e_iload_n dX12_laysTold_26 3 rfl rfl (pc2 := 27) rfl ?_
  refine e_bipush (x := 10) dX12_laysTold_27 (by decide) (pc2 := 29) rfl ?_
  refine e_icmp_ge (tgt := 82) dX12_laysTold_29 (by decide) (pc2 := 32) rfl (fun c7 => ?_) (fun c7 => ?_)
  · have hf := if_t c7 hf
    refine ev_sub [0, 1, 2] rfl ?_
    exact hk82 s hf
  · have hf := if_f c7 hf
    refine e_aload_n dX12_laysTold_32 0 rfl rfl (pc2 := 33) rfl ?_
    refine e_getR (r := 140) fl_X12_126 dX12_laysTold_33 so_101 (rs_101_50 s.2.2) (by decide) (pc2 := 36) rfl ?_
    refine e_bipush (x := 10) dX12_laysTold_36 (by decide) (pc2 := 38) rfl ?_
    refine e_iload_n dX12_laysTold_38 2 rfl rfl (pc2 := 39) rfl ?_
    refine e_imul dX12_laysTold_39 (pc2 := 40) rfl ?_
    refine e_iload_n dX12_laysTold_40 3 rfl rfl (pc2 := 41) rfl ?_
    refine e_iadd dX12_laysTold_41 (pc2 := 42) rfl ?_
    refine e_aload_n dX12_laysTold_42 0 rfl rfl (pc2 := 43) rfl ?_
    refine e_getR (r := 140) fl_X12_126 dX12_laysTold_43 so_101 (rs_101_50 s.2.2) (by decide) (pc2 := 46) rfl ?_
    refine e_bipush (x := 10) dX12_laysTold_46 (by decide) (pc2 := 48) rfl ?_
    refine e_iload_n dX12_laysTold_48 1 rfl rfl (pc2 := 49) rfl ?_
    refine e_imul dX12_laysTold_49 (pc2 := 50) rfl ?_
    refine e_iload_n dX12_laysTold_50 3 rfl rfl (pc2 := 51) rfl ?_
    refine e_iadd dX12_laysTold_51 (pc2 := 52) rfl ?_
    obtain ⟨g8, hf⟩ := gd_some hf
    refine e_iald dX12_laysTold_52 sa_140 (inb_v g8) (pc2 := 53) rfl ?_
    obtain ⟨g10, hf⟩ := gd_some hf
    obtain ⟨s9, es9, hf⟩ := ltb_s hf
    refine e_iast dX12_laysTold_53 sa_140 (inb_v g10) (h2 := hp s9) (by rw [es9]; rfl) (pc2 := 54) rfl ?_
    refine e_aload_n dX12_laysTold_54 0 rfl rfl (pc2 := 55) rfl ?_
    refine e_getR (r := 141) fl_X12_129 dX12_laysTold_55 so_101 (rs_101_51 s9.2.2) (by decide) (pc2 := 58) rfl ?_
    refine e_bipush (x := 10) dX12_laysTold_58 (by decide) (pc2 := 60) rfl ?_
    refine e_iload_n dX12_laysTold_60 2 rfl rfl (pc2 := 61) rfl ?_
    refine e_imul dX12_laysTold_61 (pc2 := 62) rfl ?_
    refine e_iload_n dX12_laysTold_62 3 rfl rfl (pc2 := 63) rfl ?_
    refine e_iadd dX12_laysTold_63 (pc2 := 64) rfl ?_
    refine e_aload_n dX12_laysTold_64 0 rfl rfl (pc2 := 65) rfl ?_
    refine e_getR (r := 141) fl_X12_129 dX12_laysTold_65 so_101 (rs_101_51 s9.2.2) (by decide) (pc2 := 68) rfl ?_
    refine e_bipush (x := 10) dX12_laysTold_68 (by decide) (pc2 := 70) rfl ?_
    refine e_iload_n dX12_laysTold_70 1 rfl rfl (pc2 := 71) rfl ?_
    refine e_imul dX12_laysTold_71 (pc2 := 72) rfl ?_
    refine e_iload_n dX12_laysTold_72 3 rfl rfl (pc2 := 73) rfl ?_
    refine e_iadd dX12_laysTold_73 (pc2 := 74) rfl ?_
    obtain ⟨g11, hf⟩ := gd_some hf
    refine e_iald dX12_laysTold_74 sa_141 (inb_v g11) (pc2 := 75) rfl ?_
    obtain ⟨g13, hf⟩ := gd_some hf
    obtain ⟨s12, es12, hf⟩ := ltb_s hf
    refine e_iast dX12_laysTold_75 sa_141 (inb_v g13) (h2 := hp s12) (by rw [es12]; rfl) (pc2 := 76) rfl ?_
    obtain ⟨x14, ex14, hf⟩ := ltb_s hf
    refine e_iinc dX12_laysTold_76 3 rfl (c9 := 1) (by decide) ex14.symm (by decide) (ls' := [(0, .ref 101), (1, .int v1), (2, .int v2), (3, .int x14)]) [1, 2, 3, 0] rfl (pc2 := 79) rfl ?_
    refine e_goto (tgt := 26) dX12_laysTold_79 (by decide) ?_
    exact hk26 x14 s12 hf
def f_X12_laysTold_l26 (v1 : Int32) (v2 : Int32) (k82 : HS → Option HS) : Nat → Int32 → HS → Option HS
  | 0, _, _ => none
  | n + 1, v3, s => f_X12_laysTold_l26b v1 v2 v3 (f_X12_laysTold_l26 v1 v2 k82 n) k82 s
set_option maxRecDepth 20000 in
set_option maxHeartbeats 2000000 in
theorem t_X12_laysTold_l26 (v1 : Int32) (v2 : Int32) {t : HS} (k82 : HS → Option HS) (hk82 : ∀ (s : HS), k82 s = some t → Ev DDX12_laysTold miX12_laysTold NF none NF (hp t) 82 NF [(0, .ref 101), (1, .int v1), (2, .int v2)] [] (hp s)) : ∀ (n : Nat) (v3 : Int32) (s : HS), f_X12_laysTold_l26 v1 v2 k82 n v3 s = some t → Ev DDX12_laysTold miX12_laysTold NF none NF (hp t) 26 NF [(0, .ref 101), (1, .int v1), (2, .int v2), (3, .int v3)] [] (hp s) := by
  intro n
  induction n with
  | zero =>
    intro v3 s hf
    have hf : none = some t := hf
    cases hf
  | succ n ih =>
    intro v3 s hf
    exact t_X12_laysTold_l26b v1 v2 v3  s _ ih _ hk82 hf
def f_X12_laysTold_l84b (v1 : Int32) (v2 : Int32) (v3 : Int32) (k84 : Int32 → HS → Option HS) (s : HS) : Option HS :=
  (if 6 ≤ v3 then some s else gd (inb ((6 * v1) + v3) 30) (gd (inb ((6 * v2) + v3) 30) (ltb (sI s 143 (((6 * v2) + v3).toNatClampNeg) (s.1 143 ((6 * v1) + v3).toNatClampNeg)) fun s18 => gd (inb ((6 * v1) + v3) 30) (gd (inb ((6 * v2) + v3) 30) (ltb (sI s18 144 (((6 * v2) + v3).toNatClampNeg) (s18.1 144 ((6 * v1) + v3).toNatClampNeg)) fun s21 => ltb (v3 + 1) fun x23 => k84 x23 s21)))))
set_option maxRecDepth 20000 in
set_option maxHeartbeats 2000000 in
theorem t_X12_laysTold_l84b (v1 : Int32) (v2 : Int32) (v3 : Int32) (s : HS) {t : HS} (k84 : Int32 → HS → Option HS) (hk84 : ∀ (a3 : Int32) (s : HS), k84 a3 s = some t → Ev DDX12_laysTold miX12_laysTold NF none NF (hp t) 84 NF [(0, .ref 101), (1, .int v1), (2, .int v2), (3, .int a3)] [] (hp s)) (hf : f_X12_laysTold_l84b v1 v2 v3 k84 s = some t) : Ev DDX12_laysTold miX12_laysTold NF none NF (hp t) 84 NF [(0, .ref 101), (1, .int v1), (2, .int v2), (3, .int v3)] [] (hp s) := by
  refine e_iload_n dX12_laysTold_84 3 rfl rfl (pc2 := 85) rfl ?_
  refine e_bipush (x := 6) dX12_laysTold_85 (by decide) (pc2 := 87) rfl ?_
  refine e_icmp_ge (tgt := 140) dX12_laysTold_87 (by decide) (pc2 := 90) rfl (fun c16 => ?_) (fun c16 => ?_)
  · have hf := if_t c16 hf
    cases hf
    exact e_vret rfl dX12_laysTold_140
  · have hf := if_f c16 hf
    refine e_aload_n dX12_laysTold_90 0 rfl rfl (pc2 := 91) rfl ?_
    refine e_getR (r := 143) fl_X12_135 dX12_laysTold_91 so_101 (rs_101_53 s.2.2) (by decide) (pc2 := 94) rfl ?_
    refine e_bipush (x := 6) dX12_laysTold_94 (by decide) (pc2 := 96) rfl ?_
    refine e_iload_n dX12_laysTold_96 2 rfl rfl (pc2 := 97) rfl ?_
    refine e_imul dX12_laysTold_97 (pc2 := 98) rfl ?_
    refine e_iload_n dX12_laysTold_98 3 rfl rfl (pc2 := 99) rfl ?_
    refine e_iadd dX12_laysTold_99 (pc2 := 100) rfl ?_
    refine e_aload_n dX12_laysTold_100 0 rfl rfl (pc2 := 101) rfl ?_
    refine e_getR (r := 143) fl_X12_135 dX12_laysTold_101 so_101 (rs_101_53 s.2.2) (by decide) (pc2 := 104) rfl ?_
    refine e_bipush (x := 6) dX12_laysTold_104 (by decide) (pc2 := 106) rfl ?_
    refine e_iload_n dX12_laysTold_106 1 rfl rfl (pc2 := 107) rfl ?_
    refine e_imul dX12_laysTold_107 (pc2 := 108) rfl ?_
    refine e_iload_n dX12_laysTold_108 3 rfl rfl (pc2 := 109) rfl ?_
    refine e_iadd dX12_laysTold_109 (pc2 := 110) rfl ?_
    obtain ⟨g17, hf⟩ := gd_some hf
    refine e_iald dX12_laysTold_110 sa_143 (inb_v g17) (pc2 := 111) rfl ?_
    obtain ⟨g19, hf⟩ := gd_some hf
    obtain ⟨s18, es18, hf⟩ := ltb_s hf
    refine e_iast dX12_laysTold_111 sa_143 (inb_v g19) (h2 := hp s18) (by rw [es18]; rfl) (pc2 := 112) rfl ?_
    refine e_aload_n dX12_laysTold_112 0 rfl rfl (pc2 := 113) rfl ?_
    refine e_getR (r := 144) fl_X12_138 dX12_laysTold_113 so_101 (rs_101_54 s18.2.2) (by decide) (pc2 := 116) rfl ?_
    refine e_bipush (x := 6) dX12_laysTold_116 (by decide) (pc2 := 118) rfl ?_
    refine e_iload_n dX12_laysTold_118 2 rfl rfl (pc2 := 119) rfl ?_
    refine e_imul dX12_laysTold_119 (pc2 := 120) rfl ?_
    refine e_iload_n dX12_laysTold_120 3 rfl rfl (pc2 := 121) rfl ?_
    refine e_iadd dX12_laysTold_121 (pc2 := 122) rfl ?_
    refine e_aload_n dX12_laysTold_122 0 rfl rfl (pc2 := 123) rfl ?_
    refine e_getR (r := 144) fl_X12_138 dX12_laysTold_123 so_101 (rs_101_54 s18.2.2) (by decide) (pc2 := 126) rfl ?_
    refine e_bipush (x := 6) dX12_laysTold_126 (by decide) (pc2 := 128) rfl ?_
    refine e_iload_n dX12_laysTold_128 1 rfl rfl (pc2 := 129) rfl ?_
    refine e_imul dX12_laysTold_129 (pc2 := 130) rfl ?_
    refine e_iload_n dX12_laysTold_130 3 rfl rfl (pc2 := 131) rfl ?_
    refine e_iadd dX12_laysTold_131 (pc2 := 132) rfl ?_
    obtain ⟨g20, hf⟩ := gd_some hf
    refine e_iald dX12_laysTold_132 sa_144 (inb_v g20) (pc2 := 133) rfl ?_
    obtain ⟨g22, hf⟩ := gd_some hf
    obtain ⟨s21, es21, hf⟩ := ltb_s hf
    refine e_iast dX12_laysTold_133 sa_144 (inb_v g22) (h2 := hp s21) (by rw [es21]; rfl) (pc2 := 134) rfl ?_
    obtain ⟨x23, ex23, hf⟩ := ltb_s hf
    refine e_iinc dX12_laysTold_134 3 rfl (c9 := 1) (by decide) ex23.symm (by decide) (ls' := [(0, .ref 101), (1, .int v1), (2, .int v2), (3, .int x23)]) [1, 2, 3, 0] rfl (pc2 := 137) rfl ?_
    refine e_goto (tgt := 84) dX12_laysTold_137 (by decide) ?_
    exact hk84 x23 s21 hf
def f_X12_laysTold_l84 (v1 : Int32) (v2 : Int32) : Nat → Int32 → HS → Option HS
  | 0, _, _ => none
  | n + 1, v3, s => f_X12_laysTold_l84b v1 v2 v3 (f_X12_laysTold_l84 v1 v2 n)  s
set_option maxRecDepth 20000 in
set_option maxHeartbeats 2000000 in
theorem t_X12_laysTold_l84 (v1 : Int32) (v2 : Int32) {t : HS}  : ∀ (n : Nat) (v3 : Int32) (s : HS), f_X12_laysTold_l84 v1 v2 n v3 s = some t → Ev DDX12_laysTold miX12_laysTold NF none NF (hp t) 84 NF [(0, .ref 101), (1, .int v1), (2, .int v2), (3, .int v3)] [] (hp s) := by
  intro n
  induction n with
  | zero =>
    intro v3 s hf
    have hf : none = some t := hf
    cases hf
  | succ n ih =>
    intro v3 s hf
    exact t_X12_laysTold_l84b v1 v2 v3  s _ ih  hf
def f_X12_laysTold (v1 : Int32) (v2 : Int32) (s : HS) : Option HS :=
  gd (inb v1 5) (gd (inb v2 5) (ltb (sI s 139 (v2.toNatClampNeg) (s.1 139 v1.toNatClampNeg)) fun s2 => gd (inb v1 5) (gd (inb v2 5) (ltb (sI s2 142 (v2.toNatClampNeg) (s2.1 142 v1.toNatClampNeg)) fun s5 => f_X12_laysTold_l26 v1 v2 (fun s15 => f_X12_laysTold_l84 v1 v2 FU 0 s15) FU 0 s5))))
set_option maxRecDepth 20000 in
set_option maxHeartbeats 2000000 in
theorem t_X12_laysTold (v1 : Int32) (v2 : Int32) (s : HS) {t : HS} (hf : f_X12_laysTold  v1 v2 s = some t) : Mt DDX12_laysTold miX12_laysTold [.ref 101, .int v1, .int v2] NF (hp s) none NF (hp t) := by
  refine Mt.of (by decide +kernel) (Nat.le_refl _) (Nat.le_of_ble_eq_true rfl) ?_
  show Ev DDX12_laysTold miX12_laysTold NF none NF (hp t) 0 NF [(0, .ref 101), (1, .int v1), (2, .int v2)] [] (hp s)
  unfold f_X12_laysTold at hf
  refine e_aload_n dX12_laysTold_0 0 rfl rfl (pc2 := 1) rfl ?_
  refine e_getR (r := 139) fl_X12_123 dX12_laysTold_1 so_101 (rs_101_49 s.2.2) (by decide) (pc2 := 4) rfl ?_
  refine e_iload_n dX12_laysTold_4 2 rfl rfl (pc2 := 5) rfl ?_
  refine e_aload_n dX12_laysTold_5 0 rfl rfl (pc2 := 6) rfl ?_
  refine e_getR (r := 139) fl_X12_123 dX12_laysTold_6 so_101 (rs_101_49 s.2.2) (by decide) (pc2 := 9) rfl ?_
  refine e_iload_n dX12_laysTold_9 1 rfl rfl (pc2 := 10) rfl ?_
  obtain ⟨g1, hf⟩ := gd_some hf
  refine e_iald dX12_laysTold_10 sa_139 (inb_v g1) (pc2 := 11) rfl ?_
  obtain ⟨g3, hf⟩ := gd_some hf
  obtain ⟨s2, es2, hf⟩ := ltb_s hf
  refine e_iast dX12_laysTold_11 sa_139 (inb_v g3) (h2 := hp s2) (by rw [es2]; rfl) (pc2 := 12) rfl ?_
  refine e_aload_n dX12_laysTold_12 0 rfl rfl (pc2 := 13) rfl ?_
  refine e_getR (r := 142) fl_X12_132 dX12_laysTold_13 so_101 (rs_101_52 s2.2.2) (by decide) (pc2 := 16) rfl ?_
  refine e_iload_n dX12_laysTold_16 2 rfl rfl (pc2 := 17) rfl ?_
  refine e_aload_n dX12_laysTold_17 0 rfl rfl (pc2 := 18) rfl ?_
  refine e_getR (r := 142) fl_X12_132 dX12_laysTold_18 so_101 (rs_101_52 s2.2.2) (by decide) (pc2 := 21) rfl ?_
  refine e_iload_n dX12_laysTold_21 1 rfl rfl (pc2 := 22) rfl ?_
  obtain ⟨g4, hf⟩ := gd_some hf
  refine e_iald dX12_laysTold_22 sa_142 (inb_v g4) (pc2 := 23) rfl ?_
  obtain ⟨g6, hf⟩ := gd_some hf
  obtain ⟨s5, es5, hf⟩ := ltb_s hf
  refine e_iast dX12_laysTold_23 sa_142 (inb_v g6) (h2 := hp s5) (by rw [es5]; rfl) (pc2 := 24) rfl ?_
  refine e_iconst (x := 0) dX12_laysTold_24 (by decide) (pc2 := 25) rfl ?_
  refine e_istore_n dX12_laysTold_25 rfl (by decide) rfl (ls' := [(0, .ref 101), (1, .int v1), (2, .int v2), (3, .int 0)]) [1, 2, 3, 0] rfl (pc2 := 26) rfl ?_
  refine t_X12_laysTold_l26 v1 v2 _ ?_ FU 0 s5 hf
  · intro s15 hf
    refine e_iconst (x := 0) dX12_laysTold_82 (by decide) (pc2 := 83) rfl ?_
    refine e_istore_n dX12_laysTold_83 rfl (by decide) rfl (ls' := [(0, .ref 101), (1, .int v1), (2, .int v2), (3, .int 0)]) [1, 2, 3, 0] rfl (pc2 := 84) rfl ?_
    refine t_X12_laysTold_l84 v1 v2 FU 0 s15 hf
abbrev DDX12_fresh : Nat := 1
def f_X12_fresh_l40b (v1 : Int32) (k40 : Int32 → HS → Option HS) (s : HS) : Option HS :=
  (if 5 ≤ v1 then some s else (if (s.1 103 1) ≤ v1 then gd (inb (4 + v1) 9) (ltb (sI s 145 ((4 + v1).toNatClampNeg) 0) fun s10 => ltb (v1 + 1) fun x12 => k40 x12 s10) else gd (inb v1 10) (gd (inb (4 + v1) 9) (ltb (sI s 145 ((4 + v1).toNatClampNeg) (s.1 111 v1.toNatClampNeg)) fun s14 => ltb (v1 + 1) fun x16 => k40 x16 s14))))
set_option maxRecDepth 20000 in
set_option maxHeartbeats 2000000 in
theorem t_X12_fresh_l40b (v1 : Int32) (s : HS) {t : HS} (k40 : Int32 → HS → Option HS) (hk40 : ∀ (a1 : Int32) (s : HS), k40 a1 s = some t → Ev DDX12_fresh miX12_fresh NF none NF (hp t) 40 NF [(0, .ref 101), (1, .int a1)] [] (hp s)) (hf : f_X12_fresh_l40b v1 k40 s = some t) : Ev DDX12_fresh miX12_fresh NF none NF (hp t) 40 NF [(0, .ref 101), (1, .int v1)] [] (hp s) := by
  refine e_iload_n dX12_fresh_40 1 rfl rfl (pc2 := 41) rfl ?_
  refine e_iconst (x := 5) dX12_fresh_41 (by decide) (pc2 := 42) rfl ?_
  refine e_icmp_ge (tgt := 79) dX12_fresh_42 (by decide) (pc2 := 45) rfl (fun c7 => ?_) (fun c7 => ?_)
  · have hf := if_t c7 hf
    cases hf
    exact e_vret rfl dX12_fresh_79
  · have hf := if_f c7 hf
    refine e_aload_n dX12_fresh_45 0 rfl rfl (pc2 := 46) rfl ?_
    refine e_getR (r := 145) fl_X12_141 dX12_fresh_46 so_101 (rs_101_55 s.2.2) (by decide) (pc2 := 49) rfl ?_
    refine e_iconst (x := 4) dX12_fresh_49 (by decide) (pc2 := 50) rfl ?_
    refine e_iload_n dX12_fresh_50 1 rfl rfl (pc2 := 51) rfl ?_
    refine e_iadd dX12_fresh_51 (pc2 := 52) rfl ?_
    refine e_iload_n dX12_fresh_52 1 rfl rfl (pc2 := 53) rfl ?_
    refine e_aload_n dX12_fresh_53 0 rfl rfl (pc2 := 54) rfl ?_
    refine e_getR (r := 103) fl_X12_13 dX12_fresh_54 so_101 (rs_101_10 s.2.2) (by decide) (pc2 := 57) rfl ?_
    refine e_iconst (x := 1) dX12_fresh_57 (by decide) (pc2 := 58) rfl ?_
    refine e_iald dX12_fresh_58 sa_103 (inb_v (by decide)) (pc2 := 59) rfl ?_
    refine e_icmp_ge (tgt := 71) dX12_fresh_59 (by decide) (pc2 := 62) rfl (fun c9 => ?_) (fun c9 => ?_)
    · have hf := if_t c9 hf
      refine e_iconst (x := 0) dX12_fresh_71 (by decide) (pc2 := 72) rfl ?_
      obtain ⟨g11, hf⟩ := gd_some hf
      obtain ⟨s10, es10, hf⟩ := ltb_s hf
      refine e_iast dX12_fresh_72 sa_145 (inb_v g11) (h2 := hp s10) (by rw [es10]; rfl) (pc2 := 73) rfl ?_
      obtain ⟨x12, ex12, hf⟩ := ltb_s hf
      refine e_iinc dX12_fresh_73 1 rfl (c9 := 1) (by decide) ex12.symm (by decide) (ls' := [(0, .ref 101), (1, .int x12)]) [1, 0] rfl (pc2 := 76) rfl ?_
      refine e_goto (tgt := 40) dX12_fresh_76 (by decide) ?_
      exact hk40 x12 s10 hf
    · have hf := if_f c9 hf
      refine e_aload_n dX12_fresh_62 0 rfl rfl (pc2 := 63) rfl ?_
      refine e_getR (r := 111) fl_X12_38 dX12_fresh_63 so_101 (rs_101_18 s.2.2) (by decide) (pc2 := 66) rfl ?_
      refine e_iload_n dX12_fresh_66 1 rfl rfl (pc2 := 67) rfl ?_
      obtain ⟨g13, hf⟩ := gd_some hf
      refine e_iald dX12_fresh_67 sa_111 (inb_v g13) (pc2 := 68) rfl ?_
      refine e_goto (tgt := 72) dX12_fresh_68 (by decide) ?_
      obtain ⟨g15, hf⟩ := gd_some hf
      obtain ⟨s14, es14, hf⟩ := ltb_s hf
      refine e_iast dX12_fresh_72 sa_145 (inb_v g15) (h2 := hp s14) (by rw [es14]; rfl) (pc2 := 73) rfl ?_
      obtain ⟨x16, ex16, hf⟩ := ltb_s hf
      refine e_iinc dX12_fresh_73 1 rfl (c9 := 1) (by decide) ex16.symm (by decide) (ls' := [(0, .ref 101), (1, .int x16)]) [1, 0] rfl (pc2 := 76) rfl ?_
      refine e_goto (tgt := 40) dX12_fresh_76 (by decide) ?_
      exact hk40 x16 s14 hf
def f_X12_fresh_l40  : Nat → Int32 → HS → Option HS
  | 0, _, _ => none
  | n + 1, v1, s => f_X12_fresh_l40b v1 (f_X12_fresh_l40  n)  s
set_option maxRecDepth 20000 in
set_option maxHeartbeats 2000000 in
theorem t_X12_fresh_l40  {t : HS}  : ∀ (n : Nat) (v1 : Int32) (s : HS), f_X12_fresh_l40  n v1 s = some t → Ev DDX12_fresh miX12_fresh NF none NF (hp t) 40 NF [(0, .ref 101), (1, .int v1)] [] (hp s) := by
  intro n
  induction n with
  | zero =>
    intro v1 s hf
    have hf : none = some t := hf
    cases hf
  | succ n ih =>
    intro v1 s hf
    exact t_X12_fresh_l40b v1  s _ ih  hf
def f_X12_fresh  (s : HS) : Option HS :=
  ltb (sI s 145 (0) 0) fun s1 => ltb (sI s1 145 (1) (s1.1 103 4)) fun s3 => ltb (sI s3 145 (2) 0) fun s4 => ltb (sI s4 145 (3) (s4.1 103 5)) fun s6 => f_X12_fresh_l40 FU 0 s6
set_option maxRecDepth 20000 in
set_option maxHeartbeats 2000000 in
theorem t_X12_fresh  (s : HS) {t : HS} (hf : f_X12_fresh  s = some t) : Mt DDX12_fresh miX12_fresh [.ref 101] NF (hp s) none NF (hp t) := by
  refine Mt.of (by decide +kernel) (Nat.le_refl _) (Nat.le_of_ble_eq_true rfl) ?_
  show Ev DDX12_fresh miX12_fresh NF none NF (hp t) 0 NF [(0, .ref 101)] [] (hp s)
  unfold f_X12_fresh at hf
  refine e_aload_n dX12_fresh_0 0 rfl rfl (pc2 := 1) rfl ?_
  refine e_getR (r := 145) fl_X12_141 dX12_fresh_1 so_101 (rs_101_55 s.2.2) (by decide) (pc2 := 4) rfl ?_
  refine e_iconst (x := 0) dX12_fresh_4 (by decide) (pc2 := 5) rfl ?_
  refine e_iconst (x := 0) dX12_fresh_5 (by decide) (pc2 := 6) rfl ?_
  obtain ⟨s1, es1, hf⟩ := ltb_s hf
  refine e_iast dX12_fresh_6 sa_145 (inb_v (by decide)) (h2 := hp s1) (by rw [es1]; rfl) (pc2 := 7) rfl ?_
  refine e_aload_n dX12_fresh_7 0 rfl rfl (pc2 := 8) rfl ?_
  refine e_getR (r := 145) fl_X12_141 dX12_fresh_8 so_101 (rs_101_55 s1.2.2) (by decide) (pc2 := 11) rfl ?_
  refine e_iconst (x := 1) dX12_fresh_11 (by decide) (pc2 := 12) rfl ?_
  refine e_aload_n dX12_fresh_12 0 rfl rfl (pc2 := 13) rfl ?_
  refine e_getR (r := 103) fl_X12_13 dX12_fresh_13 so_101 (rs_101_10 s1.2.2) (by decide) (pc2 := 16) rfl ?_
  refine e_iconst (x := 4) dX12_fresh_16 (by decide) (pc2 := 17) rfl ?_
  refine e_iald dX12_fresh_17 sa_103 (inb_v (by decide)) (pc2 := 18) rfl ?_
  obtain ⟨s3, es3, hf⟩ := ltb_s hf
  refine e_iast dX12_fresh_18 sa_145 (inb_v (by decide)) (h2 := hp s3) (by rw [es3]; rfl) (pc2 := 19) rfl ?_
  refine e_aload_n dX12_fresh_19 0 rfl rfl (pc2 := 20) rfl ?_
  refine e_getR (r := 145) fl_X12_141 dX12_fresh_20 so_101 (rs_101_55 s3.2.2) (by decide) (pc2 := 23) rfl ?_
  refine e_iconst (x := 2) dX12_fresh_23 (by decide) (pc2 := 24) rfl ?_
  refine e_iconst (x := 0) dX12_fresh_24 (by decide) (pc2 := 25) rfl ?_
  obtain ⟨s4, es4, hf⟩ := ltb_s hf
  refine e_iast dX12_fresh_25 sa_145 (inb_v (by decide)) (h2 := hp s4) (by rw [es4]; rfl) (pc2 := 26) rfl ?_
  refine e_aload_n dX12_fresh_26 0 rfl rfl (pc2 := 27) rfl ?_
  refine e_getR (r := 145) fl_X12_141 dX12_fresh_27 so_101 (rs_101_55 s4.2.2) (by decide) (pc2 := 30) rfl ?_
  refine e_iconst (x := 3) dX12_fresh_30 (by decide) (pc2 := 31) rfl ?_
  refine e_aload_n dX12_fresh_31 0 rfl rfl (pc2 := 32) rfl ?_
  refine e_getR (r := 103) fl_X12_13 dX12_fresh_32 so_101 (rs_101_10 s4.2.2) (by decide) (pc2 := 35) rfl ?_
  refine e_iconst (x := 5) dX12_fresh_35 (by decide) (pc2 := 36) rfl ?_
  refine e_iald dX12_fresh_36 sa_103 (inb_v (by decide)) (pc2 := 37) rfl ?_
  obtain ⟨s6, es6, hf⟩ := ltb_s hf
  refine e_iast dX12_fresh_37 sa_145 (inb_v (by decide)) (h2 := hp s6) (by rw [es6]; rfl) (pc2 := 38) rfl ?_
  refine e_iconst (x := 0) dX12_fresh_38 (by decide) (pc2 := 39) rfl ?_
  refine e_istore_n dX12_fresh_39 rfl (by decide) rfl (ls' := [(0, .ref 101), (1, .int 0)]) [1, 0] rfl (pc2 := 40) rfl ?_
  refine t_X12_fresh_l40 FU 0 s6 hf
abbrev DDX12_junction : Nat := 7
def f_X12_junction_l53b (v1 : Int32) (k53 : Int32 → HS → Option (Int32 × HS)) (s : HS) : Option (Int32 × HS) :=
  (if 4 ≤ v1 then some (0, s) else gd (inb v1 4) (ltb (sI s 149 (v1.toNatClampNeg) (vp_nar .boolean 0)) fun s14 => ltb (v1 + 1) fun x16 => k53 x16 s14))
set_option maxRecDepth 20000 in
set_option maxHeartbeats 2000000 in
theorem t_X12_junction_l53b (v1 : Int32) (s : HS) {x : Int32} {t : HS} (k53 : Int32 → HS → Option (Int32 × HS)) (hk53 : ∀ (a1 : Int32) (s : HS), k53 a1 s = some (x, t) → Ev DDX12_junction miX12_junction NF (some (.int x)) NF (hp t) 53 NF [(0, .ref 101), (1, .int a1)] [] (hp s)) (hf : f_X12_junction_l53b v1 k53 s = some (x, t)) : Ev DDX12_junction miX12_junction NF (some (.int x)) NF (hp t) 53 NF [(0, .ref 101), (1, .int v1)] [] (hp s) := by
  refine e_iload_n dX12_junction_53 1 rfl rfl (pc2 := 54) rfl ?_
  refine e_iconst (x := 4) dX12_junction_54 (by decide) (pc2 := 55) rfl ?_
  refine e_icmp_ge (tgt := 71) dX12_junction_55 (by decide) (pc2 := 58) rfl (fun c13 => ?_) (fun c13 => ?_)
  · have hf := if_t c13 hf
    refine e_iconst (x := 0) dX12_junction_71 (by decide) (pc2 := 72) rfl ?_
    cases hf
    exact e_iret rfl dX12_junction_72
  · have hf := if_f c13 hf
    refine e_aload_n dX12_junction_58 0 rfl rfl (pc2 := 59) rfl ?_
    refine e_getR (r := 149) fl_X12_153 dX12_junction_59 so_101 (rs_101_59 s.2.2) (by decide) (pc2 := 62) rfl ?_
    refine e_iload_n dX12_junction_62 1 rfl rfl (pc2 := 63) rfl ?_
    refine e_iconst (x := 0) dX12_junction_63 (by decide) (pc2 := 64) rfl ?_
    obtain ⟨g15, hf⟩ := gd_some hf
    obtain ⟨s14, es14, hf⟩ := ltb_s hf
    refine e_zast dX12_junction_64 sa_149 (inb_v g15) (h2 := hp s14) (by rw [es14]; rfl) (pc2 := 65) rfl ?_
    obtain ⟨x16, ex16, hf⟩ := ltb_s hf
    refine e_iinc dX12_junction_65 1 rfl (c9 := 1) (by decide) ex16.symm (by decide) (ls' := [(0, .ref 101), (1, .int x16)]) [1, 0] rfl (pc2 := 68) rfl ?_
    refine e_goto (tgt := 53) dX12_junction_68 (by decide) ?_
    exact hk53 x16 s14 hf
def f_X12_junction_l53  : Nat → Int32 → HS → Option (Int32 × HS)
  | 0, _, _ => none
  | n + 1, v1, s => f_X12_junction_l53b v1 (f_X12_junction_l53  n)  s
set_option maxRecDepth 20000 in
set_option maxHeartbeats 2000000 in
theorem t_X12_junction_l53  {x : Int32} {t : HS}  : ∀ (n : Nat) (v1 : Int32) (s : HS), f_X12_junction_l53  n v1 s = some (x, t) → Ev DDX12_junction miX12_junction NF (some (.int x)) NF (hp t) 53 NF [(0, .ref 101), (1, .int v1)] [] (hp s) := by
  intro n
  induction n with
  | zero =>
    intro v1 s hf
    have hf : none = some (x, t) := hf
    cases hf
  | succ n ih =>
    intro v1 s hf
    exact t_X12_junction_l53b v1  s _ ih  hf
def f_X12_junction  (s : HS) : Option (Int32 × HS) :=
  ltb (sI s 101 0 0) fun s1 => bnd2 (f_X12_readsAll s1) fun y2 s3 => (if y2 = 0 then some (s3.1 101 9, s3) else bnd (f_X12_lays s3) fun s6 => bnd (f_X12_fresh s6) fun s8 => ltb (sI s8 135 (0) 0) fun s9 => ltb (sI s9 139 (0) 0) fun s10 => ltb (sI s10 142 (0) 0) fun s11 => ltb (sI s11 101 60 0) fun s12 => f_X12_junction_l53 FU 0 s12)
set_option maxRecDepth 20000 in
set_option maxHeartbeats 2000000 in
theorem t_X12_junction  (s : HS) {x : Int32} {t : HS} (hf : f_X12_junction  s = some (x, t)) : Mt DDX12_junction miX12_junction [.ref 101] NF (hp s) (some (.int x)) NF (hp t) := by
  refine Mt.of (by decide +kernel) (Nat.le_refl _) (Nat.le_of_ble_eq_true rfl) ?_
  show Ev DDX12_junction miX12_junction NF (some (.int x)) NF (hp t) 0 NF [(0, .ref 101)] [] (hp s)
  unfold f_X12_junction at hf
  refine e_aload_n dX12_junction_0 0 rfl rfl (pc2 := 1) rfl ?_
  refine e_iconst (x := 0) dX12_junction_1 (by decide) (pc2 := 2) rfl ?_
  obtain ⟨s1, es1, hf⟩ := ltb_s hf
  refine e_putI fl_X12_194 dX12_junction_2 so_101 fn_11_0 (h2 := hp s1) (by rw [es1]; rfl) (pc2 := 5) rfl ?_
  refine e_aload_n dX12_junction_5 0 rfl rfl (pc2 := 6) rfl ?_
  obtain ⟨y2, s3, hy2, hf⟩ := bnd2_s hf
  refine e_callVs (t_X12_readsAll  s1 hy2) dX12_junction_6 cv_X12_427 rfl so_101 rc_11 (by decide) (by first | exact Nat.le_of_ble_eq_true rfl | simp [rva_cat, vc_i, vc_r, vc_l, vc_n]) nn0 rfl (pc2 := 9) rfl ?_
  refine e_if_ne (tgt := 17) dX12_junction_9 (by decide) (pc2 := 12) rfl (fun c4 => ?_) (fun c4 => ?_)
  · have hf := if_f c4 hf
    refine e_aload_n dX12_junction_17 0 rfl rfl (pc2 := 18) rfl ?_
    obtain ⟨s6, hy5, hf⟩ := bnd_s hf
    refine e_callVn (t_X12_lays  s3 hy5) dX12_junction_18 cv_X12_430 rfl so_101 rc_11 (by decide) (by first | exact Nat.le_of_ble_eq_true rfl | simp [rva_cat, vc_i, vc_r, vc_l, vc_n]) nn0 rfl (pc2 := 21) rfl ?_
    refine e_aload_n dX12_junction_21 0 rfl rfl (pc2 := 22) rfl ?_
    obtain ⟨s8, hy7, hf⟩ := bnd_s hf
    refine e_callVn (t_X12_fresh  s6 hy7) dX12_junction_22 cv_X12_191 rfl so_101 rc_11 (by decide) (by first | exact Nat.le_of_ble_eq_true rfl | simp [rva_cat, vc_i, vc_r, vc_l, vc_n]) nn0 rfl (pc2 := 25) rfl ?_
    refine e_aload_n dX12_junction_25 0 rfl rfl (pc2 := 26) rfl ?_
    refine e_getR (r := 135) fl_X12_111 dX12_junction_26 so_101 (rs_101_45 s8.2.2) (by decide) (pc2 := 29) rfl ?_
    refine e_iconst (x := 0) dX12_junction_29 (by decide) (pc2 := 30) rfl ?_
    refine e_iconst (x := 0) dX12_junction_30 (by decide) (pc2 := 31) rfl ?_
    obtain ⟨s9, es9, hf⟩ := ltb_s hf
    refine e_iast dX12_junction_31 sa_135 (inb_v (by decide)) (h2 := hp s9) (by rw [es9]; rfl) (pc2 := 32) rfl ?_
    refine e_aload_n dX12_junction_32 0 rfl rfl (pc2 := 33) rfl ?_
    refine e_getR (r := 139) fl_X12_123 dX12_junction_33 so_101 (rs_101_49 s9.2.2) (by decide) (pc2 := 36) rfl ?_
    refine e_iconst (x := 0) dX12_junction_36 (by decide) (pc2 := 37) rfl ?_
    refine e_iconst (x := 0) dX12_junction_37 (by decide) (pc2 := 38) rfl ?_
    obtain ⟨s10, es10, hf⟩ := ltb_s hf
    refine e_iast dX12_junction_38 sa_139 (inb_v (by decide)) (h2 := hp s10) (by rw [es10]; rfl) (pc2 := 39) rfl ?_
    refine e_aload_n dX12_junction_39 0 rfl rfl (pc2 := 40) rfl ?_
    refine e_getR (r := 142) fl_X12_132 dX12_junction_40 so_101 (rs_101_52 s10.2.2) (by decide) (pc2 := 43) rfl ?_
    refine e_iconst (x := 0) dX12_junction_43 (by decide) (pc2 := 44) rfl ?_
    refine e_iconst (x := 0) dX12_junction_44 (by decide) (pc2 := 45) rfl ?_
    obtain ⟨s11, es11, hf⟩ := ltb_s hf
    refine e_iast dX12_junction_45 sa_142 (inb_v (by decide)) (h2 := hp s11) (by rw [es11]; rfl) (pc2 := 46) rfl ?_
    refine e_aload_n dX12_junction_46 0 rfl rfl (pc2 := 47) rfl ?_
    refine e_iconst (x := 0) dX12_junction_47 (by decide) (pc2 := 48) rfl ?_
    obtain ⟨s12, es12, hf⟩ := ltb_s hf
    refine e_putI fl_X12_433 dX12_junction_48 so_101 fn_11_60 (h2 := hp s12) (by rw [es12]; rfl) (pc2 := 51) rfl ?_
    refine e_iconst (x := 0) dX12_junction_51 (by decide) (pc2 := 52) rfl ?_
    refine e_istore_n dX12_junction_52 rfl (by decide) rfl (ls' := [(0, .ref 101), (1, .int 0)]) [1, 0] rfl (pc2 := 53) rfl ?_
    refine t_X12_junction_l53 FU 0 s12 hf
  · have hf := if_t c4 hf
    refine e_aload_n dX12_junction_12 0 rfl rfl (pc2 := 13) rfl ?_
    refine e_getI fl_X12_229 dX12_junction_13 so_101 (by decide) (pc2 := 16) rfl ?_
    cases hf
    exact e_iret rfl dX12_junction_16
abbrev DDX12_days : Nat := 5
def f_X12_days_l16b (k16 : HS → Option (Int32 × HS)) (k35 : HS → Option (Int32 × HS)) (s : HS) : Option (Int32 × HS) :=
  (if (s.1 101 6) = 0 then k35 s else bnd2 (f_X12_readsLine s) fun y6 s7 => (if y6 = 0 then some (s7.1 101 9, s7) else k16 s7))
set_option maxRecDepth 20000 in
set_option maxHeartbeats 2000000 in
theorem t_X12_days_l16b  (s : HS) {x : Int32} {t : HS} (k16 : HS → Option (Int32 × HS)) (hk16 : ∀ (s : HS), k16 s = some (x, t) → Ev DDX12_days miX12_days NF (some (.int x)) NF (hp t) 16 NF [(0, .ref 101)] [] (hp s)) (k35 : HS → Option (Int32 × HS)) (hk35 : ∀ (s : HS), k35 s = some (x, t) → Ev DDX12_days miX12_days NF (some (.int x)) NF (hp t) 35 NF [(0, .ref 101)] [] (hp s)) (hf : f_X12_days_l16b k16 k35 s = some (x, t)) : Ev DDX12_days miX12_days NF (some (.int x)) NF (hp t) 16 NF [(0, .ref 101)] [] (hp s) := by
  refine e_aload_n dX12_days_16 0 rfl rfl (pc2 := 17) rfl ?_
  refine e_getI fl_X12_218 dX12_days_17 so_101 (by decide) (pc2 := 20) rfl ?_
  refine e_if_eq (tgt := 35) dX12_days_20 (by decide) (pc2 := 23) rfl (fun c5 => ?_) (fun c5 => ?_)
  · have hf := if_t c5 hf
    exact hk35 s hf
  · have hf := if_f c5 hf
    refine e_aload_n dX12_days_23 0 rfl rfl (pc2 := 24) rfl ?_
    obtain ⟨y6, s7, hy6, hf⟩ := bnd2_s hf
    refine e_callVs (t_X12_readsLine  s hy6) dX12_days_24 cv_X12_436 rfl so_101 rc_11 (by decide) (by first | exact Nat.le_of_ble_eq_true rfl | simp [rva_cat, vc_i, vc_r, vc_l, vc_n]) nn0 rfl (pc2 := 27) rfl ?_
    refine e_if_ne (tgt := 16) dX12_days_27 (by decide) (pc2 := 30) rfl (fun c8 => ?_) (fun c8 => ?_)
    · have hf := if_f c8 hf
      exact hk16 s7 hf
    · have hf := if_t c8 hf
      refine e_aload_n dX12_days_30 0 rfl rfl (pc2 := 31) rfl ?_
      refine e_getI fl_X12_229 dX12_days_31 so_101 (by decide) (pc2 := 34) rfl ?_
      cases hf
      exact e_iret rfl dX12_days_34
def f_X12_days_l16 (k35 : HS → Option (Int32 × HS)) : Nat → HS → Option (Int32 × HS)
  | 0, _ => none
  | n + 1, s => f_X12_days_l16b  (f_X12_days_l16 k35 n) k35 s
set_option maxRecDepth 20000 in
set_option maxHeartbeats 2000000 in
theorem t_X12_days_l16  {x : Int32} {t : HS} (k35 : HS → Option (Int32 × HS)) (hk35 : ∀ (s : HS), k35 s = some (x, t) → Ev DDX12_days miX12_days NF (some (.int x)) NF (hp t) 35 NF [(0, .ref 101)] [] (hp s)) : ∀ (n : Nat)  (s : HS), f_X12_days_l16 k35 n s = some (x, t) → Ev DDX12_days miX12_days NF (some (.int x)) NF (hp t) 16 NF [(0, .ref 101)] [] (hp s) := by
  intro n
  induction n with
  | zero =>
    intro s hf
    have hf : none = some (x, t) := hf
    cases hf
  | succ n ih =>
    intro s hf
    exact t_X12_days_l16b   s _ ih _ hk35 hf
def f_X12_days  (s : HS) : Option (Int32 × HS) :=
  ltb (sI s 101 0 0) fun s1 => ltb (sI s1 135 (5) 0) fun s2 => bnd (f_X12_starts s2) fun s4 => f_X12_days_l16 (fun s9 => bnd (f_X12_laysLines 5 0 s9) fun s11 => some (0, s11)) FU s4
set_option maxRecDepth 20000 in
set_option maxHeartbeats 2000000 in
theorem t_X12_days  (s : HS) {x : Int32} {t : HS} (hf : f_X12_days  s = some (x, t)) : Mt DDX12_days miX12_days [.ref 101] NF (hp s) (some (.int x)) NF (hp t) := by
  refine Mt.of (by decide +kernel) (Nat.le_refl _) (Nat.le_of_ble_eq_true rfl) ?_
  show Ev DDX12_days miX12_days NF (some (.int x)) NF (hp t) 0 NF [(0, .ref 101)] [] (hp s)
  unfold f_X12_days at hf
  refine e_aload_n dX12_days_0 0 rfl rfl (pc2 := 1) rfl ?_
  refine e_iconst (x := 0) dX12_days_1 (by decide) (pc2 := 2) rfl ?_
  obtain ⟨s1, es1, hf⟩ := ltb_s hf
  refine e_putI fl_X12_194 dX12_days_2 so_101 fn_11_0 (h2 := hp s1) (by rw [es1]; rfl) (pc2 := 5) rfl ?_
  refine e_aload_n dX12_days_5 0 rfl rfl (pc2 := 6) rfl ?_
  refine e_getR (r := 135) fl_X12_111 dX12_days_6 so_101 (rs_101_45 s1.2.2) (by decide) (pc2 := 9) rfl ?_
  refine e_iconst (x := 5) dX12_days_9 (by decide) (pc2 := 10) rfl ?_
  refine e_iconst (x := 0) dX12_days_10 (by decide) (pc2 := 11) rfl ?_
  obtain ⟨s2, es2, hf⟩ := ltb_s hf
  refine e_iast dX12_days_11 sa_135 (inb_v (by decide)) (h2 := hp s2) (by rw [es2]; rfl) (pc2 := 12) rfl ?_
  refine e_aload_n dX12_days_12 0 rfl rfl (pc2 := 13) rfl ?_
  obtain ⟨s4, hy3, hf⟩ := bnd_s hf
  refine e_callVn (t_X12_starts  s2 hy3) dX12_days_13 cv_X12_395 rfl so_101 rc_11 (by decide) (by first | exact Nat.le_of_ble_eq_true rfl | simp [rva_cat, vc_i, vc_r, vc_l, vc_n]) nn0 rfl (pc2 := 16) rfl ?_
  refine t_X12_days_l16 _ ?_ FU s4 hf
  · intro s9 hf
    refine e_aload_n dX12_days_35 0 rfl rfl (pc2 := 36) rfl ?_
    refine e_iconst (x := 5) dX12_days_36 (by decide) (pc2 := 37) rfl ?_
    refine e_iconst (x := 0) dX12_days_37 (by decide) (pc2 := 38) rfl ?_
    obtain ⟨s11, hy10, hf⟩ := bnd_s hf
    refine e_callVn (t_X12_laysLines 5 0 s9 hy10) dX12_days_38 cv_X12_439 rfl so_101 rc_11 (by decide) (by first | exact Nat.le_of_ble_eq_true rfl | simp [rva_cat, vc_i, vc_r, vc_l, vc_n]) nn0 rfl (pc2 := 41) rfl ?_
    refine e_iconst (x := 0) dX12_days_41 (by decide) (pc2 := 42) rfl ?_
    cases hf
    exact e_iret rfl dX12_days_42
abbrev DDX12_isThing : Nat := 1
def f_X12_isThing (v1 : Int32) (s : HS) : Int32 :=
  (if v1 < 0 then 0 else (if (s.1 103 1) ≤ v1 then 0 else 1))
set_option maxRecDepth 20000 in
set_option maxHeartbeats 2000000 in
theorem t_X12_isThing (v1 : Int32) (s : HS) {x : Int32} (hf : f_X12_isThing  v1 s = x) : Mt DDX12_isThing miX12_isThing [.ref 101, .int v1] NF (hp s) (some (.int x)) NF (hp s) := by
  refine Mt.of (by decide +kernel) (Nat.le_refl _) (Nat.le_of_ble_eq_true rfl) ?_
  show Ev DDX12_isThing miX12_isThing NF (some (.int x)) NF (hp s) 0 NF [(0, .ref 101), (1, .int v1)] [] (hp s)
  unfold f_X12_isThing at hf
  refine e_iload_n dX12_isThing_0 1 rfl rfl (pc2 := 1) rfl ?_
  refine e_if_lt (tgt := 18) dX12_isThing_1 (by decide) (pc2 := 4) rfl (fun c1 => ?_) (fun c1 => ?_)
  · have hf := if_t c1 hf
    refine e_iconst (x := 0) dX12_isThing_18 (by decide) (pc2 := 19) rfl ?_
    cases hf
    exact e_zret (by decide) rfl dX12_isThing_19
  · have hf := if_f c1 hf
    refine e_iload_n dX12_isThing_4 1 rfl rfl (pc2 := 5) rfl ?_
    refine e_aload_n dX12_isThing_5 0 rfl rfl (pc2 := 6) rfl ?_
    refine e_getR (r := 103) fl_X12_13 dX12_isThing_6 so_101 (rs_101_10 s.2.2) (by decide) (pc2 := 9) rfl ?_
    refine e_iconst (x := 1) dX12_isThing_9 (by decide) (pc2 := 10) rfl ?_
    refine e_iald dX12_isThing_10 sa_103 (inb_v (by decide)) (pc2 := 11) rfl ?_
    refine e_icmp_ge (tgt := 18) dX12_isThing_11 (by decide) (pc2 := 14) rfl (fun c3 => ?_) (fun c3 => ?_)
    · have hf := if_t c3 hf
      refine e_iconst (x := 0) dX12_isThing_18 (by decide) (pc2 := 19) rfl ?_
      cases hf
      exact e_zret (by decide) rfl dX12_isThing_19
    · have hf := if_f c3 hf
      refine e_iconst (x := 1) dX12_isThing_14 (by decide) (pc2 := 15) rfl ?_
      refine e_goto (tgt := 19) dX12_isThing_15 (by decide) ?_
      cases hf
      exact e_zret (by decide) rfl dX12_isThing_19
abbrev DDX12_isBuyer : Nat := 1
def f_X12_isBuyer (v1 : Int32) (s : HS) : Int32 :=
  (if v1 < 0 then 0 else (if (s.1 103 2) ≤ v1 then 0 else 1))
set_option maxRecDepth 20000 in
set_option maxHeartbeats 2000000 in
theorem t_X12_isBuyer (v1 : Int32) (s : HS) {x : Int32} (hf : f_X12_isBuyer  v1 s = x) : Mt DDX12_isBuyer miX12_isBuyer [.ref 101, .int v1] NF (hp s) (some (.int x)) NF (hp s) := by
  refine Mt.of (by decide +kernel) (Nat.le_refl _) (Nat.le_of_ble_eq_true rfl) ?_
  show Ev DDX12_isBuyer miX12_isBuyer NF (some (.int x)) NF (hp s) 0 NF [(0, .ref 101), (1, .int v1)] [] (hp s)
  unfold f_X12_isBuyer at hf
  refine e_iload_n dX12_isBuyer_0 1 rfl rfl (pc2 := 1) rfl ?_
  refine e_if_lt (tgt := 18) dX12_isBuyer_1 (by decide) (pc2 := 4) rfl (fun c1 => ?_) (fun c1 => ?_)
  · have hf := if_t c1 hf
    refine e_iconst (x := 0) dX12_isBuyer_18 (by decide) (pc2 := 19) rfl ?_
    cases hf
    exact e_zret (by decide) rfl dX12_isBuyer_19
  · have hf := if_f c1 hf
    refine e_iload_n dX12_isBuyer_4 1 rfl rfl (pc2 := 5) rfl ?_
    refine e_aload_n dX12_isBuyer_5 0 rfl rfl (pc2 := 6) rfl ?_
    refine e_getR (r := 103) fl_X12_13 dX12_isBuyer_6 so_101 (rs_101_10 s.2.2) (by decide) (pc2 := 9) rfl ?_
    refine e_iconst (x := 2) dX12_isBuyer_9 (by decide) (pc2 := 10) rfl ?_
    refine e_iald dX12_isBuyer_10 sa_103 (inb_v (by decide)) (pc2 := 11) rfl ?_
    refine e_icmp_ge (tgt := 18) dX12_isBuyer_11 (by decide) (pc2 := 14) rfl (fun c3 => ?_) (fun c3 => ?_)
    · have hf := if_t c3 hf
      refine e_iconst (x := 0) dX12_isBuyer_18 (by decide) (pc2 := 19) rfl ?_
      cases hf
      exact e_zret (by decide) rfl dX12_isBuyer_19
    · have hf := if_f c3 hf
      refine e_iconst (x := 1) dX12_isBuyer_14 (by decide) (pc2 := 15) rfl ?_
      refine e_goto (tgt := 19) dX12_isBuyer_15 (by decide) ?_
      cases hf
      exact e_zret (by decide) rfl dX12_isBuyer_19
abbrev DDX12_allBuyers : Nat := 1
def f_X12_allBuyers  (s : HS) : Int32 :=
  ((1 : Int32) <<< ((s.1 103 2) &&& 31)) - 1
set_option maxRecDepth 20000 in
set_option maxHeartbeats 2000000 in
theorem t_X12_allBuyers  (s : HS) {x : Int32} (hf : f_X12_allBuyers  s = x) : Mt DDX12_allBuyers miX12_allBuyers [.ref 101] NF (hp s) (some (.int x)) NF (hp s) := by
  refine Mt.of (by decide +kernel) (Nat.le_refl _) (Nat.le_of_ble_eq_true rfl) ?_
  show Ev DDX12_allBuyers miX12_allBuyers NF (some (.int x)) NF (hp s) 0 NF [(0, .ref 101)] [] (hp s)
  unfold f_X12_allBuyers at hf
  refine e_iconst (x := 1) dX12_allBuyers_0 (by decide) (pc2 := 1) rfl ?_
  refine e_aload_n dX12_allBuyers_1 0 rfl rfl (pc2 := 2) rfl ?_
  refine e_getR (r := 103) fl_X12_13 dX12_allBuyers_2 so_101 (rs_101_10 s.2.2) (by decide) (pc2 := 5) rfl ?_
  refine e_iconst (x := 2) dX12_allBuyers_5 (by decide) (pc2 := 6) rfl ?_
  refine e_iald dX12_allBuyers_6 sa_103 (inb_v (by decide)) (pc2 := 7) rfl ?_
  refine e_ishl dX12_allBuyers_7 (pc2 := 8) rfl ?_
  refine e_iconst (x := 1) dX12_allBuyers_8 (by decide) (pc2 := 9) rfl ?_
  refine e_isub dX12_allBuyers_9 (pc2 := 10) rfl ?_
  cases hf
  exact e_iret rfl dX12_allBuyers_10
abbrev DDX12_wayOf : Nat := 2
def f_X12_wayOf (v1 : Int32) (s : HS) : Option Int32 :=
  gd (inb v1 12) (gd (inb (s.1 114 v1.toNatClampNeg) 12) (some (((f_X12_away (s.1 107 (s.1 114 v1.toNatClampNeg).toNatClampNeg) (s.1 145 2) s) * (s.1 103 9)) / 10)))
set_option maxRecDepth 20000 in
set_option maxHeartbeats 2000000 in
theorem t_X12_wayOf (v1 : Int32) (s : HS) {x : Int32} (hf : f_X12_wayOf  v1 s = some x) : Mt DDX12_wayOf miX12_wayOf [.ref 101, .int v1] NF (hp s) (some (.int x)) NF (hp s) := by
  refine Mt.of (by decide +kernel) (Nat.le_refl _) (Nat.le_of_ble_eq_true rfl) ?_
  show Ev DDX12_wayOf miX12_wayOf NF (some (.int x)) NF (hp s) 0 NF [(0, .ref 101), (1, .int v1)] [] (hp s)
  unfold f_X12_wayOf at hf
  refine e_aload_n dX12_wayOf_0 0 rfl rfl (pc2 := 1) rfl ?_
  refine e_getR (r := 107) fl_X12_26 dX12_wayOf_1 so_101 (rs_101_14 s.2.2) (by decide) (pc2 := 4) rfl ?_
  refine e_aload_n dX12_wayOf_4 0 rfl rfl (pc2 := 5) rfl ?_
  refine e_getR (r := 114) fl_X12_47 dX12_wayOf_5 so_101 (rs_101_21 s.2.2) (by decide) (pc2 := 8) rfl ?_
  refine e_iload_n dX12_wayOf_8 1 rfl rfl (pc2 := 9) rfl ?_
  obtain ⟨g1, hf⟩ := gd_some hf
  refine e_iald dX12_wayOf_9 sa_114 (inb_v g1) (pc2 := 10) rfl ?_
  obtain ⟨g2, hf⟩ := gd_some hf
  refine e_iald dX12_wayOf_10 sa_107 (inb_v g2) (pc2 := 11) rfl ?_
  refine e_aload_n dX12_wayOf_11 0 rfl rfl (pc2 := 12) rfl ?_
  refine e_getR (r := 145) fl_X12_141 dX12_wayOf_12 so_101 (rs_101_55 s.2.2) (by decide) (pc2 := 15) rfl ?_
  refine e_iconst (x := 2) dX12_wayOf_15 (by decide) (pc2 := 16) rfl ?_
  refine e_iald dX12_wayOf_16 sa_145 (inb_v (by decide)) (pc2 := 17) rfl ?_
  refine e_callSs (t_X12_away (s.1 107 (s.1 114 v1.toNatClampNeg).toNatClampNeg) (s.1 145 2) s rfl) dX12_wayOf_17 cs_X12_443 rfl (by decide) (by first | exact Nat.le_of_ble_eq_true rfl | simp [rva_cat, vc_i, vc_r, vc_l, vc_n]) nn0 rfl (pc2 := 20) rfl ?_
  refine e_aload_n dX12_wayOf_20 0 rfl rfl (pc2 := 21) rfl ?_
  refine e_getR (r := 103) fl_X12_13 dX12_wayOf_21 so_101 (rs_101_10 s.2.2) (by decide) (pc2 := 24) rfl ?_
  refine e_bipush (x := 9) dX12_wayOf_24 (by decide) (pc2 := 26) rfl ?_
  refine e_iald dX12_wayOf_26 sa_103 (inb_v (by decide)) (pc2 := 27) rfl ?_
  refine e_imul dX12_wayOf_27 (pc2 := 28) rfl ?_
  refine e_bipush (x := 10) dX12_wayOf_28 (by decide) (pc2 := 30) rfl ?_
  refine e_idiv dX12_wayOf_30 (by decide) (pc2 := 31) rfl ?_
  cases hf
  exact e_iret rfl dX12_wayOf_31
abbrev DDX12_goesAt : Nat := 3
def f_X12_goesAt (v1 : Int32) (s : HS) : Option Int32 :=
  bnd (f_X12_wayOf v1 s) fun y3 => some (imax 0 (imin (s.1 145 1) ((s.1 103 3) - y3)))
set_option maxRecDepth 20000 in
set_option maxHeartbeats 2000000 in
theorem t_X12_goesAt (v1 : Int32) (s : HS) {x : Int32} (hf : f_X12_goesAt  v1 s = some x) : Mt DDX12_goesAt miX12_goesAt [.ref 101, .int v1] NF (hp s) (some (.int x)) NF (hp s) := by
  refine Mt.of (by decide +kernel) (Nat.le_refl _) (Nat.le_of_ble_eq_true rfl) ?_
  show Ev DDX12_goesAt miX12_goesAt NF (some (.int x)) NF (hp s) 0 NF [(0, .ref 101), (1, .int v1)] [] (hp s)
  unfold f_X12_goesAt at hf
  refine e_iconst (x := 0) dX12_goesAt_0 (by decide) (pc2 := 1) rfl ?_
  refine e_aload_n dX12_goesAt_1 0 rfl rfl (pc2 := 2) rfl ?_
  refine e_getR (r := 145) fl_X12_141 dX12_goesAt_2 so_101 (rs_101_55 s.2.2) (by decide) (pc2 := 5) rfl ?_
  refine e_iconst (x := 1) dX12_goesAt_5 (by decide) (pc2 := 6) rfl ?_
  refine e_iald dX12_goesAt_6 sa_145 (inb_v (by decide)) (pc2 := 7) rfl ?_
  refine e_aload_n dX12_goesAt_7 0 rfl rfl (pc2 := 8) rfl ?_
  refine e_getR (r := 103) fl_X12_13 dX12_goesAt_8 so_101 (rs_101_10 s.2.2) (by decide) (pc2 := 11) rfl ?_
  refine e_iconst (x := 3) dX12_goesAt_11 (by decide) (pc2 := 12) rfl ?_
  refine e_iald dX12_goesAt_12 sa_103 (inb_v (by decide)) (pc2 := 13) rfl ?_
  refine e_aload_n dX12_goesAt_13 0 rfl rfl (pc2 := 14) rfl ?_
  refine e_iload_n dX12_goesAt_14 1 rfl rfl (pc2 := 15) rfl ?_
  obtain ⟨y3, hy3, hf⟩ := bnd_s hf
  refine e_callVs (t_X12_wayOf v1 s hy3) dX12_goesAt_15 cv_X12_447 rfl so_101 rc_11 (by decide) (by first | exact Nat.le_of_ble_eq_true rfl | simp [rva_cat, vc_i, vc_r, vc_l, vc_n]) nn0 rfl (pc2 := 18) rfl ?_
  refine e_isub dX12_goesAt_18 (pc2 := 19) rfl ?_
  refine e_mmin dX12_goesAt_19 mm_X12_450 (by decide) nn0 (by first | exact Nat.le_of_ble_eq_true rfl | simp [rva_cat, vc_i, vc_r, vc_l, vc_n]) (pc2 := 22) rfl ?_
  refine e_mmax dX12_goesAt_22 mm_X12_455 (by decide) nn0 (by first | exact Nat.le_of_ble_eq_true rfl | simp [rva_cat, vc_i, vc_r, vc_l, vc_n]) (pc2 := 25) rfl ?_
  cases hf
  exact e_iret rfl dX12_goesAt_25
abbrev DDX12_comesAt : Nat := 3
def f_X12_comesAt (v1 : Int32) (s : HS) : Option Int32 :=
  gd (inb v1 12) ((if (s.1 113 v1.toNatClampNeg) = 2 then some 0 else bnd (f_X12_wayOf v1 s) fun y3 => some y3))
set_option maxRecDepth 20000 in
set_option maxHeartbeats 2000000 in
theorem t_X12_comesAt (v1 : Int32) (s : HS) {x : Int32} (hf : f_X12_comesAt  v1 s = some x) : Mt DDX12_comesAt miX12_comesAt [.ref 101, .int v1] NF (hp s) (some (.int x)) NF (hp s) := by
  refine Mt.of (by decide +kernel) (Nat.le_refl _) (Nat.le_of_ble_eq_true rfl) ?_
  show Ev DDX12_comesAt miX12_comesAt NF (some (.int x)) NF (hp s) 0 NF [(0, .ref 101), (1, .int v1)] [] (hp s)
  unfold f_X12_comesAt at hf
  refine e_aload_n dX12_comesAt_0 0 rfl rfl (pc2 := 1) rfl ?_
  refine e_getR (r := 113) fl_X12_44 dX12_comesAt_1 so_101 (rs_101_20 s.2.2) (by decide) (pc2 := 4) rfl ?_
  refine e_iload_n dX12_comesAt_4 1 rfl rfl (pc2 := 5) rfl ?_
  obtain ⟨g1, hf⟩ := gd_some hf
  refine e_iald dX12_comesAt_5 sa_113 (inb_v g1) (pc2 := 6) rfl ?_
  refine e_iconst (x := 2) dX12_comesAt_6 (by decide) (pc2 := 7) rfl ?_
  refine e_icmp_ne (tgt := 14) dX12_comesAt_7 (by decide) (pc2 := 10) rfl (fun c2 => ?_) (fun c2 => ?_)
  · have hf := if_f c2 hf
    refine e_aload_n dX12_comesAt_14 0 rfl rfl (pc2 := 15) rfl ?_
    refine e_iload_n dX12_comesAt_15 1 rfl rfl (pc2 := 16) rfl ?_
    obtain ⟨y3, hy3, hf⟩ := bnd_s hf
    refine e_callVs (t_X12_wayOf v1 s hy3) dX12_comesAt_16 cv_X12_447 rfl so_101 rc_11 (by decide) (by first | exact Nat.le_of_ble_eq_true rfl | simp [rva_cat, vc_i, vc_r, vc_l, vc_n]) nn0 rfl (pc2 := 19) rfl ?_
    cases hf
    exact e_iret rfl dX12_comesAt_19
  · have hf := if_t c2 hf
    refine e_iconst (x := 0) dX12_comesAt_10 (by decide) (pc2 := 11) rfl ?_
    refine e_goto (tgt := 19) dX12_comesAt_11 (by decide) ?_
    cases hf
    exact e_iret rfl dX12_comesAt_19
abbrev DDX12_manyOf : Nat := 1
def f_X12_manyOf_l19b (v2 : Int32) (v3 : Int32) (k19 : Int32 → Int32 → Option Int32) (s : HS) : Option Int32 :=
  (if (s.1 103 2) ≤ v3 then some v2 else (if (((s.1 101 63) >>> (v3 &&& 31)) &&& (1 : Int32)) = 1 then gd (inb v3 12) (ltb (v2 + (s.1 118 v3.toNatClampNeg)) fun x8 => ltb (v3 + 1) fun x9 => k19 x8 x9) else ltb (v2 + 0) fun x5 => ltb (v3 + 1) fun x6 => k19 x5 x6))
set_option maxRecDepth 20000 in
set_option maxHeartbeats 2000000 in
theorem t_X12_manyOf_l19b (v2 : Int32) (v3 : Int32) (s : HS) {x : Int32} (k19 : Int32 → Int32 → Option Int32) (hk19 : ∀ (a2 : Int32) (a3 : Int32), k19 a2 a3 = some x → Ev DDX12_manyOf miX12_manyOf NF (some (.int x)) NF (hp s) 19 NF [(0, .ref 101), (2, .int a2), (3, .int a3)] [] (hp s)) (hf : f_X12_manyOf_l19b v2 v3 k19 s = some x) : Ev DDX12_manyOf miX12_manyOf NF (some (.int x)) NF (hp s) 19 NF [(0, .ref 101), (2, .int v2), (3, .int v3)] [] (hp s) := by
  refine e_iload_n dX12_manyOf_19 2 rfl rfl (pc2 := 20) rfl ?_
  refine e_aload_n dX12_manyOf_20 0 rfl rfl (pc2 := 21) rfl ?_
  refine e_getR (r := 103) fl_X12_13 dX12_manyOf_21 so_101 (rs_101_10 s.2.2) (by decide) (pc2 := 24) rfl ?_
  refine e_iconst (x := 2) dX12_manyOf_24 (by decide) (pc2 := 25) rfl ?_
  refine e_iald dX12_manyOf_25 sa_103 (inb_v (by decide)) (pc2 := 26) rfl ?_
  refine e_icmp_ge (tgt := 60) dX12_manyOf_26 (by decide) (pc2 := 29) rfl (fun c3 => ?_) (fun c3 => ?_)
  · have hf := if_t c3 hf
    refine e_iload_n dX12_manyOf_60 1 rfl rfl (pc2 := 61) rfl ?_
    cases hf
    exact e_iret rfl dX12_manyOf_61
  · have hf := if_f c3 hf
    refine e_iload_n dX12_manyOf_29 1 rfl rfl (pc2 := 30) rfl ?_
    refine e_aload_n dX12_manyOf_30 0 rfl rfl (pc2 := 31) rfl ?_
    refine e_getI fl_X12_458 dX12_manyOf_31 so_101 (by decide) (pc2 := 34) rfl ?_
    refine e_iload_n dX12_manyOf_34 2 rfl rfl (pc2 := 35) rfl ?_
    refine e_ishr dX12_manyOf_35 (pc2 := 36) rfl ?_
    refine e_iconst (x := 1) dX12_manyOf_36 (by decide) (pc2 := 37) rfl ?_
    refine e_iand dX12_manyOf_37 (pc2 := 38) rfl ?_
    refine e_iconst (x := 1) dX12_manyOf_38 (by decide) (pc2 := 39) rfl ?_
    refine e_icmp_ne (tgt := 51) dX12_manyOf_39 (by decide) (pc2 := 42) rfl (fun c4 => ?_) (fun c4 => ?_)
    · have hf := if_f c4 hf
      refine e_iconst (x := 0) dX12_manyOf_51 (by decide) (pc2 := 52) rfl ?_
      refine e_iadd dX12_manyOf_52 (pc2 := 53) rfl ?_
      obtain ⟨x5, ex5, hf⟩ := ltb_s hf
      refine e_istore_n dX12_manyOf_53 rfl (by decide) ex5.symm (ls' := [(0, .ref 101), (2, .int x5), (3, .int v3)]) [1, 0, 2] rfl (pc2 := 54) rfl ?_
      obtain ⟨x6, ex6, hf⟩ := ltb_s hf
      refine e_iinc dX12_manyOf_54 2 rfl (c9 := 1) (by decide) ex6.symm (by decide) (ls' := [(0, .ref 101), (2, .int x5), (3, .int x6)]) [1, 2, 0] rfl (pc2 := 57) rfl ?_
      refine e_goto (tgt := 19) dX12_manyOf_57 (by decide) ?_
      exact hk19 x5 x6 hf
    · have hf := if_t c4 hf
      refine e_aload_n dX12_manyOf_42 0 rfl rfl (pc2 := 43) rfl ?_
      refine e_getR (r := 118) fl_X12_59 dX12_manyOf_43 so_101 (rs_101_25 s.2.2) (by decide) (pc2 := 46) rfl ?_
      refine e_iload_n dX12_manyOf_46 2 rfl rfl (pc2 := 47) rfl ?_
      obtain ⟨g7, hf⟩ := gd_some hf
      refine e_iald dX12_manyOf_47 sa_118 (inb_v g7) (pc2 := 48) rfl ?_
      refine e_goto (tgt := 52) dX12_manyOf_48 (by decide) ?_
      refine e_iadd dX12_manyOf_52 (pc2 := 53) rfl ?_
      obtain ⟨x8, ex8, hf⟩ := ltb_s hf
      refine e_istore_n dX12_manyOf_53 rfl (by decide) ex8.symm (ls' := [(0, .ref 101), (2, .int x8), (3, .int v3)]) [1, 0, 2] rfl (pc2 := 54) rfl ?_
      obtain ⟨x9, ex9, hf⟩ := ltb_s hf
      refine e_iinc dX12_manyOf_54 2 rfl (c9 := 1) (by decide) ex9.symm (by decide) (ls' := [(0, .ref 101), (2, .int x8), (3, .int x9)]) [1, 2, 0] rfl (pc2 := 57) rfl ?_
      refine e_goto (tgt := 19) dX12_manyOf_57 (by decide) ?_
      exact hk19 x8 x9 hf
def f_X12_manyOf_l19  (s : HS) : Nat → Int32 → Int32 → Option Int32
  | 0, _, _ => none
  | n + 1, v2, v3 => f_X12_manyOf_l19b v2 v3 (f_X12_manyOf_l19 s n)  s
set_option maxRecDepth 20000 in
set_option maxHeartbeats 2000000 in
theorem t_X12_manyOf_l19  (s : HS) {x : Int32}  : ∀ (n : Nat) (v2 : Int32) (v3 : Int32), f_X12_manyOf_l19 s n v2 v3 = some x → Ev DDX12_manyOf miX12_manyOf NF (some (.int x)) NF (hp s) 19 NF [(0, .ref 101), (2, .int v2), (3, .int v3)] [] (hp s) := by
  intro n
  induction n with
  | zero =>
    intro v2 v3 hf
    have hf : none = some x := hf
    cases hf
  | succ n ih =>
    intro v2 v3 hf
    exact t_X12_manyOf_l19b v2 v3  s _ ih  hf
def f_X12_manyOf (v1 : Int32) (s : HS) : Option Int32 :=
  (if v1 = (s.1 101 62) then f_X12_manyOf_l19 s FU 0 0 else gd (inb v1 12) (some (s.1 118 v1.toNatClampNeg)))
set_option maxRecDepth 20000 in
set_option maxHeartbeats 2000000 in
theorem t_X12_manyOf (v1 : Int32) (s : HS) {x : Int32} (hf : f_X12_manyOf  v1 s = some x) : Mt DDX12_manyOf miX12_manyOf [.ref 101, .int v1] NF (hp s) (some (.int x)) NF (hp s) := by
  refine Mt.of (by decide +kernel) (Nat.le_refl _) (Nat.le_of_ble_eq_true rfl) ?_
  show Ev DDX12_manyOf miX12_manyOf NF (some (.int x)) NF (hp s) 0 NF [(0, .ref 101), (1, .int v1)] [] (hp s)
  unfold f_X12_manyOf at hf
  refine e_iload_n dX12_manyOf_0 1 rfl rfl (pc2 := 1) rfl ?_
  refine e_aload_n dX12_manyOf_1 0 rfl rfl (pc2 := 2) rfl ?_
  refine e_getI fl_X12_156 dX12_manyOf_2 so_101 (by decide) (pc2 := 5) rfl ?_
  refine e_icmp_eq (tgt := 15) dX12_manyOf_5 (by decide) (pc2 := 8) rfl (fun c1 => ?_) (fun c1 => ?_)
  · have hf := if_t c1 hf
    refine e_iconst (x := 0) dX12_manyOf_15 (by decide) (pc2 := 16) rfl ?_
    refine e_istore_n dX12_manyOf_16 rfl (by decide) rfl (ls' := [(0, .ref 101), (2, .int 0)]) [1, 0] rfl (pc2 := 17) rfl ?_
    refine e_iconst (x := 0) dX12_manyOf_17 (by decide) (pc2 := 18) rfl ?_
    refine e_istore_n dX12_manyOf_18 rfl (by decide) rfl (ls' := [(0, .ref 101), (2, .int 0), (3, .int 0)]) [1, 2, 0] rfl (pc2 := 19) rfl ?_
    refine t_X12_manyOf_l19 s FU 0 0 hf
  · have hf := if_f c1 hf
    refine e_aload_n dX12_manyOf_8 0 rfl rfl (pc2 := 9) rfl ?_
    refine e_getR (r := 118) fl_X12_59 dX12_manyOf_9 so_101 (rs_101_25 s.2.2) (by decide) (pc2 := 12) rfl ?_
    refine e_iload_n dX12_manyOf_12 1 rfl rfl (pc2 := 13) rfl ?_
    obtain ⟨g10, hf⟩ := gd_some hf
    refine e_iald dX12_manyOf_13 sa_118 (inb_v g10) (pc2 := 14) rfl ?_
    cases hf
    exact e_iret rfl dX12_manyOf_14
abbrev DDX12_secsOf : Nat := 1
def f_X12_secsOf_l4b (v1 : Int32) (v2 : Int32) (v3 : Int32) (k4 : Int32 → Int32 → Option Int32) (s : HS) : Option Int32 :=
  gd (inb v1 12) ((if (s.1 118 v1.toNatClampNeg) ≤ v3 then some v2 else gd (inb ((3 * v1) + v3) 36) (gd (inb (s.1 117 ((3 * v1) + v3).toNatClampNeg) 10) (ltb (v2 + (s.1 109 (s.1 117 ((3 * v1) + v3).toNatClampNeg).toNatClampNeg)) fun x5 => ltb (v3 + 1) fun x6 => k4 x5 x6))))
set_option maxRecDepth 20000 in
set_option maxHeartbeats 2000000 in
theorem t_X12_secsOf_l4b (v1 : Int32) (v2 : Int32) (v3 : Int32) (s : HS) {x : Int32} (k4 : Int32 → Int32 → Option Int32) (hk4 : ∀ (a2 : Int32) (a3 : Int32), k4 a2 a3 = some x → Ev DDX12_secsOf miX12_secsOf NF (some (.int x)) NF (hp s) 4 NF [(0, .ref 101), (1, .int v1), (2, .int a2), (3, .int a3)] [] (hp s)) (hf : f_X12_secsOf_l4b v1 v2 v3 k4 s = some x) : Ev DDX12_secsOf miX12_secsOf NF (some (.int x)) NF (hp s) 4 NF [(0, .ref 101), (1, .int v1), (2, .int v2), (3, .int v3)] [] (hp s) := by
  refine e_iload_n dX12_secsOf_4 3 rfl rfl (pc2 := 5) rfl ?_
  refine e_aload_n dX12_secsOf_5 0 rfl rfl (pc2 := 6) rfl ?_
  refine e_getR (r := 118) fl_X12_59 dX12_secsOf_6 so_101 (rs_101_25 s.2.2) (by decide) (pc2 := 9) rfl ?_
  refine e_iload_n dX12_secsOf_9 1 rfl rfl (pc2 := 10) rfl ?_
  obtain ⟨g1, hf⟩ := gd_some hf
  refine e_iald dX12_secsOf_10 sa_118 (inb_v g1) (pc2 := 11) rfl ?_
  refine e_icmp_ge (tgt := 38) dX12_secsOf_11 (by decide) (pc2 := 14) rfl (fun c2 => ?_) (fun c2 => ?_)
  · have hf := if_t c2 hf
    refine e_iload_n dX12_secsOf_38 2 rfl rfl (pc2 := 39) rfl ?_
    cases hf
    exact e_iret rfl dX12_secsOf_39
  · have hf := if_f c2 hf
    refine e_iload_n dX12_secsOf_14 2 rfl rfl (pc2 := 15) rfl ?_
    refine e_aload_n dX12_secsOf_15 0 rfl rfl (pc2 := 16) rfl ?_
    refine e_getR (r := 109) fl_X12_32 dX12_secsOf_16 so_101 (rs_101_16 s.2.2) (by decide) (pc2 := 19) rfl ?_
    refine e_aload_n dX12_secsOf_19 0 rfl rfl (pc2 := 20) rfl ?_
    refine e_getR (r := 117) fl_X12_56 dX12_secsOf_20 so_101 (rs_101_24 s.2.2) (by decide) (pc2 := 23) rfl ?_
    refine e_iconst (x := 3) dX12_secsOf_23 (by decide) (pc2 := 24) rfl ?_
    refine e_iload_n dX12_secsOf_24 1 rfl rfl (pc2 := 25) rfl ?_
    refine e_imul dX12_secsOf_25 (pc2 := 26) rfl ?_
    refine e_iload_n dX12_secsOf_26 3 rfl rfl (pc2 := 27) rfl ?_
    refine e_iadd dX12_secsOf_27 (pc2 := 28) rfl ?_
    obtain ⟨g3, hf⟩ := gd_some hf
    refine e_iald dX12_secsOf_28 sa_117 (inb_v g3) (pc2 := 29) rfl ?_
    obtain ⟨g4, hf⟩ := gd_some hf
    refine e_iald dX12_secsOf_29 sa_109 (inb_v g4) (pc2 := 30) rfl ?_
    refine e_iadd dX12_secsOf_30 (pc2 := 31) rfl ?_
    obtain ⟨x5, ex5, hf⟩ := ltb_s hf
    refine e_istore_n dX12_secsOf_31 rfl (by decide) ex5.symm (ls' := [(0, .ref 101), (1, .int v1), (2, .int x5), (3, .int v3)]) [1, 2, 0, 3] rfl (pc2 := 32) rfl ?_
    obtain ⟨x6, ex6, hf⟩ := ltb_s hf
    refine e_iinc dX12_secsOf_32 3 rfl (c9 := 1) (by decide) ex6.symm (by decide) (ls' := [(0, .ref 101), (1, .int v1), (2, .int x5), (3, .int x6)]) [1, 2, 3, 0] rfl (pc2 := 35) rfl ?_
    refine e_goto (tgt := 4) dX12_secsOf_35 (by decide) ?_
    exact hk4 x5 x6 hf
def f_X12_secsOf_l4 (v1 : Int32) (s : HS) : Nat → Int32 → Int32 → Option Int32
  | 0, _, _ => none
  | n + 1, v2, v3 => f_X12_secsOf_l4b v1 v2 v3 (f_X12_secsOf_l4 v1 s n)  s
set_option maxRecDepth 20000 in
set_option maxHeartbeats 2000000 in
theorem t_X12_secsOf_l4 (v1 : Int32) (s : HS) {x : Int32}  : ∀ (n : Nat) (v2 : Int32) (v3 : Int32), f_X12_secsOf_l4 v1 s n v2 v3 = some x → Ev DDX12_secsOf miX12_secsOf NF (some (.int x)) NF (hp s) 4 NF [(0, .ref 101), (1, .int v1), (2, .int v2), (3, .int v3)] [] (hp s) := by
  intro n
  induction n with
  | zero =>
    intro v2 v3 hf
    have hf : none = some x := hf
    cases hf
  | succ n ih =>
    intro v2 v3 hf
    exact t_X12_secsOf_l4b v1 v2 v3  s _ ih  hf
def f_X12_secsOf (v1 : Int32) (s : HS) : Option Int32 :=
  f_X12_secsOf_l4 v1 s FU 0 0
set_option maxRecDepth 20000 in
set_option maxHeartbeats 2000000 in
theorem t_X12_secsOf (v1 : Int32) (s : HS) {x : Int32} (hf : f_X12_secsOf  v1 s = some x) : Mt DDX12_secsOf miX12_secsOf [.ref 101, .int v1] NF (hp s) (some (.int x)) NF (hp s) := by
  refine Mt.of (by decide +kernel) (Nat.le_refl _) (Nat.le_of_ble_eq_true rfl) ?_
  show Ev DDX12_secsOf miX12_secsOf NF (some (.int x)) NF (hp s) 0 NF [(0, .ref 101), (1, .int v1)] [] (hp s)
  unfold f_X12_secsOf at hf
  refine e_iconst (x := 0) dX12_secsOf_0 (by decide) (pc2 := 1) rfl ?_
  refine e_istore_n dX12_secsOf_1 rfl (by decide) rfl (ls' := [(0, .ref 101), (1, .int v1), (2, .int 0)]) [1, 2, 0] rfl (pc2 := 2) rfl ?_
  refine e_iconst (x := 0) dX12_secsOf_2 (by decide) (pc2 := 3) rfl ?_
  refine e_istore_n dX12_secsOf_3 rfl (by decide) rfl (ls' := [(0, .ref 101), (1, .int v1), (2, .int 0), (3, .int 0)]) [1, 2, 3, 0] rfl (pc2 := 4) rfl ?_
  refine t_X12_secsOf_l4 v1 s FU 0 0 hf
abbrev DDX12_wants : Nat := 1
def f_X12_wants_l2b (v1 : Int32) (v2 : Int32) (v3 : Int32) (k2 : Int32 → Option Int32) (s : HS) : Option Int32 :=
  gd (inb v1 12) ((if (s.1 118 v1.toNatClampNeg) ≤ v3 then some 0 else gd (inb ((3 * v1) + v3) 36) ((if (s.1 117 ((3 * v1) + v3).toNatClampNeg) = v2 then some 1 else ltb (v3 + 1) fun x5 => k2 x5))))
set_option maxRecDepth 20000 in
set_option maxHeartbeats 2000000 in
theorem t_X12_wants_l2b (v1 : Int32) (v2 : Int32) (v3 : Int32) (s : HS) {x : Int32} (k2 : Int32 → Option Int32) (hk2 : ∀ (a3 : Int32), k2 a3 = some x → Ev DDX12_wants miX12_wants NF (some (.int x)) NF (hp s) 2 NF [(0, .ref 101), (1, .int v1), (2, .int v2), (3, .int a3)] [] (hp s)) (hf : f_X12_wants_l2b v1 v2 v3 k2 s = some x) : Ev DDX12_wants miX12_wants NF (some (.int x)) NF (hp s) 2 NF [(0, .ref 101), (1, .int v1), (2, .int v2), (3, .int v3)] [] (hp s) := by
  refine e_iload_n dX12_wants_2 3 rfl rfl (pc2 := 3) rfl ?_
  refine e_aload_n dX12_wants_3 0 rfl rfl (pc2 := 4) rfl ?_
  refine e_getR (r := 118) fl_X12_59 dX12_wants_4 so_101 (rs_101_25 s.2.2) (by decide) (pc2 := 7) rfl ?_
  refine e_iload_n dX12_wants_7 1 rfl rfl (pc2 := 8) rfl ?_
  obtain ⟨g1, hf⟩ := gd_some hf
  refine e_iald dX12_wants_8 sa_118 (inb_v g1) (pc2 := 9) rfl ?_
  refine e_icmp_ge (tgt := 34) dX12_wants_9 (by decide) (pc2 := 12) rfl (fun c2 => ?_) (fun c2 => ?_)
  · have hf := if_t c2 hf
    refine e_iconst (x := 0) dX12_wants_34 (by decide) (pc2 := 35) rfl ?_
    cases hf
    exact e_zret (by decide) rfl dX12_wants_35
  · have hf := if_f c2 hf
    refine e_aload_n dX12_wants_12 0 rfl rfl (pc2 := 13) rfl ?_
    refine e_getR (r := 117) fl_X12_56 dX12_wants_13 so_101 (rs_101_24 s.2.2) (by decide) (pc2 := 16) rfl ?_
    refine e_iconst (x := 3) dX12_wants_16 (by decide) (pc2 := 17) rfl ?_
    refine e_iload_n dX12_wants_17 1 rfl rfl (pc2 := 18) rfl ?_
    refine e_imul dX12_wants_18 (pc2 := 19) rfl ?_
    refine e_iload_n dX12_wants_19 3 rfl rfl (pc2 := 20) rfl ?_
    refine e_iadd dX12_wants_20 (pc2 := 21) rfl ?_
    obtain ⟨g3, hf⟩ := gd_some hf
    refine e_iald dX12_wants_21 sa_117 (inb_v g3) (pc2 := 22) rfl ?_
    refine e_iload_n dX12_wants_22 2 rfl rfl (pc2 := 23) rfl ?_
    refine e_icmp_ne (tgt := 28) dX12_wants_23 (by decide) (pc2 := 26) rfl (fun c4 => ?_) (fun c4 => ?_)
    · have hf := if_f c4 hf
      obtain ⟨x5, ex5, hf⟩ := ltb_s hf
      refine e_iinc dX12_wants_28 3 rfl (c9 := 1) (by decide) ex5.symm (by decide) (ls' := [(0, .ref 101), (1, .int v1), (2, .int v2), (3, .int x5)]) [1, 2, 3, 0] rfl (pc2 := 31) rfl ?_
      refine e_goto (tgt := 2) dX12_wants_31 (by decide) ?_
      exact hk2 x5 hf
    · have hf := if_t c4 hf
      refine e_iconst (x := 1) dX12_wants_26 (by decide) (pc2 := 27) rfl ?_
      cases hf
      exact e_zret (by decide) rfl dX12_wants_27
def f_X12_wants_l2 (v1 : Int32) (v2 : Int32) (s : HS) : Nat → Int32 → Option Int32
  | 0, _ => none
  | n + 1, v3 => f_X12_wants_l2b v1 v2 v3 (f_X12_wants_l2 v1 v2 s n)  s
set_option maxRecDepth 20000 in
set_option maxHeartbeats 2000000 in
theorem t_X12_wants_l2 (v1 : Int32) (v2 : Int32) (s : HS) {x : Int32}  : ∀ (n : Nat) (v3 : Int32), f_X12_wants_l2 v1 v2 s n v3 = some x → Ev DDX12_wants miX12_wants NF (some (.int x)) NF (hp s) 2 NF [(0, .ref 101), (1, .int v1), (2, .int v2), (3, .int v3)] [] (hp s) := by
  intro n
  induction n with
  | zero =>
    intro v3 hf
    have hf : none = some x := hf
    cases hf
  | succ n ih =>
    intro v3 hf
    exact t_X12_wants_l2b v1 v2 v3  s _ ih  hf
def f_X12_wants (v1 : Int32) (v2 : Int32) (s : HS) : Option Int32 :=
  f_X12_wants_l2 v1 v2 s FU 0
set_option maxRecDepth 20000 in
set_option maxHeartbeats 2000000 in
theorem t_X12_wants (v1 : Int32) (v2 : Int32) (s : HS) {x : Int32} (hf : f_X12_wants  v1 v2 s = some x) : Mt DDX12_wants miX12_wants [.ref 101, .int v1, .int v2] NF (hp s) (some (.int x)) NF (hp s) := by
  refine Mt.of (by decide +kernel) (Nat.le_refl _) (Nat.le_of_ble_eq_true rfl) ?_
  show Ev DDX12_wants miX12_wants NF (some (.int x)) NF (hp s) 0 NF [(0, .ref 101), (1, .int v1), (2, .int v2)] [] (hp s)
  unfold f_X12_wants at hf
  refine e_iconst (x := 0) dX12_wants_0 (by decide) (pc2 := 1) rfl ?_
  refine e_istore_n dX12_wants_1 rfl (by decide) rfl (ls' := [(0, .ref 101), (1, .int v1), (2, .int v2), (3, .int 0)]) [1, 2, 3, 0] rfl (pc2 := 2) rfl ?_
  refine t_X12_wants_l2 v1 v2 s FU 0 hf
abbrev DDX12_lastsFor : Nat := 2
def f_X12_lastsFor_j118 (v1 : Int32) (v2 : Int32) (w0 : Int32) (w1 : Int32) (s : HS) : Option (Int32 × HS) :=
  gd (inb w1 6) (ltb (sI s 155 (w1.toNatClampNeg) (vp_nar .boolean w0)) fun s7 => gd (inb v1 6) ((if (s7.1 155 v1.toNatClampNeg) = 0 then some (v2, s7) else ltb (sI s7 101 65 ((s7.1 101 65) - 1)) fun s11 => gd (inb (s11.1 101 64) 10) (ltb (v2 + (1 - (s11.1 109 (s11.1 101 64).toNatClampNeg))) fun x13 => some (x13, s11)))))
set_option maxRecDepth 20000 in
set_option maxHeartbeats 2000000 in
theorem t_X12_lastsFor_j118 (v1 : Int32) (v2 : Int32) (w0 : Int32) (w1 : Int32) (s : HS) {x : Int32} {t : HS}  (hf : f_X12_lastsFor_j118 v1 v2 w0 w1 s = some (x, t)) : Ev DDX12_lastsFor miX12_lastsFor NF (some (.int x)) NF (hp t) 118 NF [(0, .ref 101), (1, .int v1), (2, .int v2)] [.int w0, .int w1, .ref 155] (hp s) := by
  obtain ⟨g8, hf⟩ := gd_some hf
  obtain ⟨s7, es7, hf⟩ := ltb_s hf
  refine e_zast dX12_lastsFor_118 sa_155 (inb_v g8) (h2 := hp s7) (by rw [es7]; rfl) (pc2 := 119) rfl ?_
  refine e_aload_n dX12_lastsFor_119 0 rfl rfl (pc2 := 120) rfl ?_
  refine e_getR (r := 155) fl_X12_178 dX12_lastsFor_120 so_101 (rs_101_72 s7.2.2) (by decide) (pc2 := 123) rfl ?_
  refine e_iload_n dX12_lastsFor_123 1 rfl rfl (pc2 := 124) rfl ?_
  obtain ⟨g9, hf⟩ := gd_some hf
  refine e_zald dX12_lastsFor_124 sa_155 (inb_v g9) (pc2 := 125) rfl ?_
  refine e_if_eq (tgt := 152) dX12_lastsFor_125 (by decide) (pc2 := 128) rfl (fun c10 => ?_) (fun c10 => ?_)
  · have hf := if_t c10 hf
    refine e_iload_n dX12_lastsFor_152 2 rfl rfl (pc2 := 153) rfl ?_
    cases hf
    exact e_iret rfl dX12_lastsFor_153
  · have hf := if_f c10 hf
    refine e_aload_n dX12_lastsFor_128 0 rfl rfl (pc2 := 129) rfl ?_
    refine e_dup dX12_lastsFor_129 rfl (pc2 := 130) rfl ?_
    refine e_getI fl_X12_464 dX12_lastsFor_130 so_101 (by decide) (pc2 := 133) rfl ?_
    refine e_iconst (x := 1) dX12_lastsFor_133 (by decide) (pc2 := 134) rfl ?_
    refine e_isub dX12_lastsFor_134 (pc2 := 135) rfl ?_
    obtain ⟨s11, es11, hf⟩ := ltb_s hf
    refine e_putI fl_X12_464 dX12_lastsFor_135 so_101 fn_11_65 (h2 := hp s11) (by rw [es11]; rfl) (pc2 := 138) rfl ?_
    refine e_iload_n dX12_lastsFor_138 2 rfl rfl (pc2 := 139) rfl ?_
    refine e_iconst (x := 1) dX12_lastsFor_139 (by decide) (pc2 := 140) rfl ?_
    refine e_aload_n dX12_lastsFor_140 0 rfl rfl (pc2 := 141) rfl ?_
    refine e_getR (r := 109) fl_X12_32 dX12_lastsFor_141 so_101 (rs_101_16 s11.2.2) (by decide) (pc2 := 144) rfl ?_
    refine e_aload_n dX12_lastsFor_144 0 rfl rfl (pc2 := 145) rfl ?_
    refine e_getI fl_X12_160 dX12_lastsFor_145 so_101 (by decide) (pc2 := 148) rfl ?_
    obtain ⟨g12, hf⟩ := gd_some hf
    refine e_iald dX12_lastsFor_148 sa_109 (inb_v g12) (pc2 := 149) rfl ?_
    refine e_isub dX12_lastsFor_149 (pc2 := 150) rfl ?_
    refine e_iadd dX12_lastsFor_150 (pc2 := 151) rfl ?_
    obtain ⟨x13, ex13, hf⟩ := ltb_s hf
    refine e_istore_n dX12_lastsFor_151 rfl (by decide) ex13.symm (ls' := [(2, .int x13)]) [0] rfl (pc2 := 152) rfl ?_
    refine e_iload_n dX12_lastsFor_152 0 rfl rfl (pc2 := 153) rfl ?_
    cases hf
    exact e_iret rfl dX12_lastsFor_153
def f_X12_lastsFor_j117 (v1 : Int32) (v2 : Int32) (w0 : Int32) (s : HS) : Option (Int32 × HS) :=
  f_X12_lastsFor_j118 v1 v2 0 w0 s
set_option maxRecDepth 20000 in
set_option maxHeartbeats 2000000 in
theorem t_X12_lastsFor_j117 (v1 : Int32) (v2 : Int32) (w0 : Int32) (s : HS) {x : Int32} {t : HS}  (hf : f_X12_lastsFor_j117 v1 v2 w0 s = some (x, t)) : Ev DDX12_lastsFor miX12_lastsFor NF (some (.int x)) NF (hp t) 117 NF [(0, .ref 101), (1, .int v1), (2, .int v2)] [.int w0, .ref 155] (hp s) := by
  refine e_iconst (x := 0) dX12_lastsFor_117 (by decide) (pc2 := 118) rfl ?_
  exact t_X12_lastsFor_j118 v1 v2 0 w0 s hf
def f_X12_lastsFor_l32b (v2 : Int32) (v3 : Int32) (k32 : Int32 → Int32 → HS → Option (Int32 × HS)) (s : HS) : Option (Int32 × HS) :=
  (if (s.1 103 2) ≤ v3 then some (v2, s) else (if (((s.1 101 63) >>> (v3 &&& 31)) &&& (1 : Int32)) = 1 then bnd (f_X12_secsOf v3 s) fun y22 => ltb (v2 + y22) fun x23 => ltb (v3 + 1) fun x24 => k32 x23 x24 s else ltb (v2 + 0) fun x20 => ltb (v3 + 1) fun x21 => k32 x20 x21 s))
set_option maxRecDepth 20000 in
set_option maxHeartbeats 2000000 in
theorem t_X12_lastsFor_l32b (v2 : Int32) (v3 : Int32) (s : HS) {x : Int32} {t : HS} (k32 : Int32 → Int32 → HS → Option (Int32 × HS)) (hk32 : ∀ (a2 : Int32) (a3 : Int32) (s : HS), k32 a2 a3 s = some (x, t) → Ev DDX12_lastsFor miX12_lastsFor NF (some (.int x)) NF (hp t) 32 NF [(0, .ref 101), (2, .int a2), (3, .int a3)] [] (hp s)) (hf : f_X12_lastsFor_l32b v2 v3 k32 s = some (x, t)) : Ev DDX12_lastsFor miX12_lastsFor NF (some (.int x)) NF (hp t) 32 NF [(0, .ref 101), (2, .int v2), (3, .int v3)] [] (hp s) := by
  refine e_iload_n dX12_lastsFor_32 2 rfl rfl (pc2 := 33) rfl ?_
  refine e_aload_n dX12_lastsFor_33 0 rfl rfl (pc2 := 34) rfl ?_
  refine e_getR (r := 103) fl_X12_13 dX12_lastsFor_34 so_101 (rs_101_10 s.2.2) (by decide) (pc2 := 37) rfl ?_
  refine e_iconst (x := 2) dX12_lastsFor_37 (by decide) (pc2 := 38) rfl ?_
  refine e_iald dX12_lastsFor_38 sa_103 (inb_v (by decide)) (pc2 := 39) rfl ?_
  refine e_icmp_ge (tgt := 72) dX12_lastsFor_39 (by decide) (pc2 := 42) rfl (fun c18 => ?_) (fun c18 => ?_)
  · have hf := if_t c18 hf
    refine e_iload_n dX12_lastsFor_72 1 rfl rfl (pc2 := 73) rfl ?_
    cases hf
    exact e_iret rfl dX12_lastsFor_73
  · have hf := if_f c18 hf
    refine e_iload_n dX12_lastsFor_42 1 rfl rfl (pc2 := 43) rfl ?_
    refine e_aload_n dX12_lastsFor_43 0 rfl rfl (pc2 := 44) rfl ?_
    refine e_getI fl_X12_458 dX12_lastsFor_44 so_101 (by decide) (pc2 := 47) rfl ?_
    refine e_iload_n dX12_lastsFor_47 2 rfl rfl (pc2 := 48) rfl ?_
    refine e_ishr dX12_lastsFor_48 (pc2 := 49) rfl ?_
    refine e_iconst (x := 1) dX12_lastsFor_49 (by decide) (pc2 := 50) rfl ?_
    refine e_iand dX12_lastsFor_50 (pc2 := 51) rfl ?_
    refine e_iconst (x := 1) dX12_lastsFor_51 (by decide) (pc2 := 52) rfl ?_
    refine e_icmp_ne (tgt := 63) dX12_lastsFor_52 (by decide) (pc2 := 55) rfl (fun c19 => ?_) (fun c19 => ?_)
    · have hf := if_f c19 hf
      refine e_iconst (x := 0) dX12_lastsFor_63 (by decide) (pc2 := 64) rfl ?_
      refine e_iadd dX12_lastsFor_64 (pc2 := 65) rfl ?_
      obtain ⟨x20, ex20, hf⟩ := ltb_s hf
      refine e_istore_n dX12_lastsFor_65 rfl (by decide) ex20.symm (ls' := [(0, .ref 101), (2, .int x20), (3, .int v3)]) [1, 0, 2] rfl (pc2 := 66) rfl ?_
      obtain ⟨x21, ex21, hf⟩ := ltb_s hf
      refine e_iinc dX12_lastsFor_66 2 rfl (c9 := 1) (by decide) ex21.symm (by decide) (ls' := [(0, .ref 101), (2, .int x20), (3, .int x21)]) [1, 2, 0] rfl (pc2 := 69) rfl ?_
      refine e_goto (tgt := 32) dX12_lastsFor_69 (by decide) ?_
      exact hk32 x20 x21 s hf
    · have hf := if_t c19 hf
      refine e_aload_n dX12_lastsFor_55 0 rfl rfl (pc2 := 56) rfl ?_
      refine e_iload_n dX12_lastsFor_56 2 rfl rfl (pc2 := 57) rfl ?_
      obtain ⟨y22, hy22, hf⟩ := bnd_s hf
      refine e_callVs (t_X12_secsOf v3 s hy22) dX12_lastsFor_57 cv_X12_461 rfl so_101 rc_11 (by decide) (by first | exact Nat.le_of_ble_eq_true rfl | simp [rva_cat, vc_i, vc_r, vc_l, vc_n]) nn0 rfl (pc2 := 60) rfl ?_
      refine e_goto (tgt := 64) dX12_lastsFor_60 (by decide) ?_
      refine e_iadd dX12_lastsFor_64 (pc2 := 65) rfl ?_
      obtain ⟨x23, ex23, hf⟩ := ltb_s hf
      refine e_istore_n dX12_lastsFor_65 rfl (by decide) ex23.symm (ls' := [(0, .ref 101), (2, .int x23), (3, .int v3)]) [1, 0, 2] rfl (pc2 := 66) rfl ?_
      obtain ⟨x24, ex24, hf⟩ := ltb_s hf
      refine e_iinc dX12_lastsFor_66 2 rfl (c9 := 1) (by decide) ex24.symm (by decide) (ls' := [(0, .ref 101), (2, .int x23), (3, .int x24)]) [1, 2, 0] rfl (pc2 := 69) rfl ?_
      refine e_goto (tgt := 32) dX12_lastsFor_69 (by decide) ?_
      exact hk32 x23 x24 s hf
def f_X12_lastsFor_l32  : Nat → Int32 → Int32 → HS → Option (Int32 × HS)
  | 0, _, _, _ => none
  | n + 1, v2, v3, s => f_X12_lastsFor_l32b v2 v3 (f_X12_lastsFor_l32  n)  s
set_option maxRecDepth 20000 in
set_option maxHeartbeats 2000000 in
theorem t_X12_lastsFor_l32  {x : Int32} {t : HS}  : ∀ (n : Nat) (v2 : Int32) (v3 : Int32) (s : HS), f_X12_lastsFor_l32  n v2 v3 s = some (x, t) → Ev DDX12_lastsFor miX12_lastsFor NF (some (.int x)) NF (hp t) 32 NF [(0, .ref 101), (2, .int v2), (3, .int v3)] [] (hp s) := by
  intro n
  induction n with
  | zero =>
    intro v2 v3 s hf
    have hf : none = some (x, t) := hf
    cases hf
  | succ n ih =>
    intro v2 v3 s hf
    exact t_X12_lastsFor_l32b v2 v3  s _ ih  hf
def f_X12_lastsFor_j21 (v1 : Int32) (w0 : Int32) (s : HS) : Option (Int32 × HS) :=
  (if v1 = (s.1 101 62) then f_X12_lastsFor_l32 FU w0 0 s else bnd (f_X12_secsOf v1 s) fun y4 => ltb (w0 + y4) fun x5 => (if (s.1 101 64) < 0 then f_X12_lastsFor_j117 v1 x5 v1 s else (if (s.1 101 65) ≤ 0 then f_X12_lastsFor_j117 v1 x5 v1 s else bnd (f_X12_wants v1 (s.1 101 64) s) fun y15 => (if y15 = 0 then f_X12_lastsFor_j117 v1 x5 v1 s else f_X12_lastsFor_j118 v1 x5 1 v1 s))))
set_option maxRecDepth 20000 in
set_option maxHeartbeats 2000000 in
theorem t_X12_lastsFor_j21 (v1 : Int32) (w0 : Int32) (s : HS) {x : Int32} {t : HS}  (hf : f_X12_lastsFor_j21 v1 w0 s = some (x, t)) : Ev DDX12_lastsFor miX12_lastsFor NF (some (.int x)) NF (hp t) 21 NF [(0, .ref 101), (1, .int v1)] [.int w0] (hp s) := by
  refine e_istore_n dX12_lastsFor_21 rfl (by decide) rfl (ls' := [(0, .ref 101), (1, .int v1), (2, .int w0)]) [1, 2, 0] rfl (pc2 := 22) rfl ?_
  refine e_iload_n dX12_lastsFor_22 1 rfl rfl (pc2 := 23) rfl ?_
  refine e_aload_n dX12_lastsFor_23 0 rfl rfl (pc2 := 24) rfl ?_
  refine e_getI fl_X12_156 dX12_lastsFor_24 so_101 (by decide) (pc2 := 27) rfl ?_
  refine e_icmp_ne (tgt := 74) dX12_lastsFor_27 (by decide) (pc2 := 30) rfl (fun c3 => ?_) (fun c3 => ?_)
  · have hf := if_f c3 hf
    refine e_iload_n dX12_lastsFor_74 2 rfl rfl (pc2 := 75) rfl ?_
    refine e_aload_n dX12_lastsFor_75 0 rfl rfl (pc2 := 76) rfl ?_
    refine e_iload_n dX12_lastsFor_76 1 rfl rfl (pc2 := 77) rfl ?_
    obtain ⟨y4, hy4, hf⟩ := bnd_s hf
    refine e_callVs (t_X12_secsOf v1 s hy4) dX12_lastsFor_77 cv_X12_461 rfl so_101 rc_11 (by decide) (by first | exact Nat.le_of_ble_eq_true rfl | simp [rva_cat, vc_i, vc_r, vc_l, vc_n]) nn0 rfl (pc2 := 80) rfl ?_
    refine e_iadd dX12_lastsFor_80 (pc2 := 81) rfl ?_
    obtain ⟨x5, ex5, hf⟩ := ltb_s hf
    refine e_istore_n dX12_lastsFor_81 rfl (by decide) ex5.symm (ls' := [(0, .ref 101), (1, .int v1), (2, .int x5)]) [1, 2, 0] rfl (pc2 := 82) rfl ?_
    refine e_aload_n dX12_lastsFor_82 0 rfl rfl (pc2 := 83) rfl ?_
    refine e_getR (r := 155) fl_X12_178 dX12_lastsFor_83 so_101 (rs_101_72 s.2.2) (by decide) (pc2 := 86) rfl ?_
    refine e_iload_n dX12_lastsFor_86 1 rfl rfl (pc2 := 87) rfl ?_
    refine e_aload_n dX12_lastsFor_87 0 rfl rfl (pc2 := 88) rfl ?_
    refine e_getI fl_X12_160 dX12_lastsFor_88 so_101 (by decide) (pc2 := 91) rfl ?_
    refine e_if_lt (tgt := 117) dX12_lastsFor_91 (by decide) (pc2 := 94) rfl (fun c6 => ?_) (fun c6 => ?_)
    · have hf := if_t c6 hf
      exact t_X12_lastsFor_j117 v1 x5 v1 s hf
    · have hf := if_f c6 hf
      refine e_aload_n dX12_lastsFor_94 0 rfl rfl (pc2 := 95) rfl ?_
      refine e_getI fl_X12_464 dX12_lastsFor_95 so_101 (by decide) (pc2 := 98) rfl ?_
      refine e_if_le (tgt := 117) dX12_lastsFor_98 (by decide) (pc2 := 101) rfl (fun c14 => ?_) (fun c14 => ?_)
      · have hf := if_t c14 hf
        exact t_X12_lastsFor_j117 v1 x5 v1 s hf
      · have hf := if_f c14 hf
        refine e_aload_n dX12_lastsFor_101 0 rfl rfl (pc2 := 102) rfl ?_
        refine e_iload_n dX12_lastsFor_102 1 rfl rfl (pc2 := 103) rfl ?_
        refine e_aload_n dX12_lastsFor_103 0 rfl rfl (pc2 := 104) rfl ?_
        refine e_getI fl_X12_160 dX12_lastsFor_104 so_101 (by decide) (pc2 := 107) rfl ?_
        obtain ⟨y15, hy15, hf⟩ := bnd_s hf
        refine e_callVs (t_X12_wants v1 (s.1 101 64) s hy15) dX12_lastsFor_107 cv_X12_467 rfl so_101 rc_11 (by decide) (by first | exact Nat.le_of_ble_eq_true rfl | simp [rva_cat, vc_i, vc_r, vc_l, vc_n]) nn0 rfl (pc2 := 110) rfl ?_
        refine e_if_eq (tgt := 117) dX12_lastsFor_110 (by decide) (pc2 := 113) rfl (fun c16 => ?_) (fun c16 => ?_)
        · have hf := if_t c16 hf
          exact t_X12_lastsFor_j117 v1 x5 v1 s hf
        · have hf := if_f c16 hf
          refine e_iconst (x := 1) dX12_lastsFor_113 (by decide) (pc2 := 114) rfl ?_
          refine e_goto (tgt := 118) dX12_lastsFor_114 (by decide) ?_
          exact t_X12_lastsFor_j118 v1 x5 1 v1 s hf
  · have hf := if_t c3 hf
    refine e_iconst (x := 0) dX12_lastsFor_30 (by decide) (pc2 := 31) rfl ?_
    refine e_istore_n dX12_lastsFor_31 rfl (by decide) rfl (ls' := [(0, .ref 101), (2, .int w0), (3, .int 0)]) [1, 3, 0] rfl (pc2 := 32) rfl ?_
    refine t_X12_lastsFor_l32 FU w0 0 s hf
def f_X12_lastsFor (v1 : Int32) (s : HS) : Option (Int32 × HS) :=
  gd (inb v1 12) ((if (s.1 113 v1.toNatClampNeg) = 1 then f_X12_lastsFor_j21 v1 (s.1 103 6) s else f_X12_lastsFor_j21 v1 0 s))
set_option maxRecDepth 20000 in
set_option maxHeartbeats 2000000 in
theorem t_X12_lastsFor (v1 : Int32) (s : HS) {x : Int32} {t : HS} (hf : f_X12_lastsFor  v1 s = some (x, t)) : Mt DDX12_lastsFor miX12_lastsFor [.ref 101, .int v1] NF (hp s) (some (.int x)) NF (hp t) := by
  refine Mt.of (by decide +kernel) (Nat.le_refl _) (Nat.le_of_ble_eq_true rfl) ?_
  show Ev DDX12_lastsFor miX12_lastsFor NF (some (.int x)) NF (hp t) 0 NF [(0, .ref 101), (1, .int v1)] [] (hp s)
  unfold f_X12_lastsFor at hf
  refine e_aload_n dX12_lastsFor_0 0 rfl rfl (pc2 := 1) rfl ?_
  refine e_getR (r := 113) fl_X12_44 dX12_lastsFor_1 so_101 (rs_101_20 s.2.2) (by decide) (pc2 := 4) rfl ?_
  refine e_iload_n dX12_lastsFor_4 1 rfl rfl (pc2 := 5) rfl ?_
  obtain ⟨g1, hf⟩ := gd_some hf
  refine e_iald dX12_lastsFor_5 sa_113 (inb_v g1) (pc2 := 6) rfl ?_
  refine e_iconst (x := 1) dX12_lastsFor_6 (by decide) (pc2 := 7) rfl ?_
  refine e_icmp_ne (tgt := 20) dX12_lastsFor_7 (by decide) (pc2 := 10) rfl (fun c2 => ?_) (fun c2 => ?_)
  · have hf := if_f c2 hf
    refine e_iconst (x := 0) dX12_lastsFor_20 (by decide) (pc2 := 21) rfl ?_
    exact t_X12_lastsFor_j21 v1 0 s hf
  · have hf := if_t c2 hf
    refine e_aload_n dX12_lastsFor_10 0 rfl rfl (pc2 := 11) rfl ?_
    refine e_getR (r := 103) fl_X12_13 dX12_lastsFor_11 so_101 (rs_101_10 s.2.2) (by decide) (pc2 := 14) rfl ?_
    refine e_bipush (x := 6) dX12_lastsFor_14 (by decide) (pc2 := 16) rfl ?_
    refine e_iald dX12_lastsFor_16 sa_103 (inb_v (by decide)) (pc2 := 17) rfl ?_
    refine e_goto (tgt := 21) dX12_lastsFor_17 (by decide) ?_
    exact t_X12_lastsFor_j21 v1 (s.1 103 6) s hf
abbrev DDX12_orderOf : Nat := 4
def f_X12_orderOf_j107 (v1 : Int32) (w0 : Int32) (w1 : Int32) (s : HS) : Option (Int32 × HS) :=
  gd (inb w1 20) (ltb (sI s 134 (w1.toNatClampNeg) w0) fun s13 => bnd (f_X12_manyOf v1 s13) fun y15 => ltb (sI s13 134 (4) y15) fun s16 => bnd2 (f_X12_worked 0 s16) fun y17 s18 => some (y17, s18))
set_option maxRecDepth 20000 in
set_option maxHeartbeats 2000000 in
theorem t_X12_orderOf_j107 (v1 : Int32) (w0 : Int32) (w1 : Int32) (s : HS) {x : Int32} {t : HS}  (hf : f_X12_orderOf_j107 v1 w0 w1 s = some (x, t)) : Ev DDX12_orderOf miX12_orderOf NF (some (.int x)) NF (hp t) 107 NF [(0, .ref 101), (1, .int v1)] [.int w0, .int w1, .ref 134] (hp s) := by
  obtain ⟨g14, hf⟩ := gd_some hf
  obtain ⟨s13, es13, hf⟩ := ltb_s hf
  refine e_iast dX12_orderOf_107 sa_134 (inb_v g14) (h2 := hp s13) (by rw [es13]; rfl) (pc2 := 108) rfl ?_
  refine e_aload_n dX12_orderOf_108 0 rfl rfl (pc2 := 109) rfl ?_
  refine e_getR (r := 134) fl_X12_108 dX12_orderOf_109 so_101 (rs_101_43 s13.2.2) (by decide) (pc2 := 112) rfl ?_
  refine e_iconst (x := 4) dX12_orderOf_112 (by decide) (pc2 := 113) rfl ?_
  refine e_aload_n dX12_orderOf_113 0 rfl rfl (pc2 := 114) rfl ?_
  refine e_iload_n dX12_orderOf_114 1 rfl rfl (pc2 := 115) rfl ?_
  obtain ⟨y15, hy15, hf⟩ := bnd_s hf
  refine e_callVs (t_X12_manyOf v1 s13 hy15) dX12_orderOf_115 cv_X12_476 rfl so_101 rc_11 (by decide) (by first | exact Nat.le_of_ble_eq_true rfl | simp [rva_cat, vc_i, vc_r, vc_l, vc_n]) nn0 rfl (pc2 := 118) rfl ?_
  obtain ⟨s16, es16, hf⟩ := ltb_s hf
  refine e_iast dX12_orderOf_118 sa_134 (inb_v (by decide)) (h2 := hp s16) (by rw [es16]; rfl) (pc2 := 119) rfl ?_
  refine e_aload_n dX12_orderOf_119 0 rfl rfl (pc2 := 120) rfl ?_
  refine e_iconst (x := 0) dX12_orderOf_120 (by decide) (pc2 := 121) rfl ?_
  obtain ⟨y17, s18, hy17, hf⟩ := bnd2_s hf
  refine e_callVs (t_X12_worked 0 s16 hy17) dX12_orderOf_121 cv_X12_479 rfl so_101 rc_11 (by decide) (by first | exact Nat.le_of_ble_eq_true rfl | simp [rva_cat, vc_i, vc_r, vc_l, vc_n]) nn0 rfl (pc2 := 124) rfl ?_
  cases hf
  exact e_iret rfl dX12_orderOf_124
def f_X12_orderOf (v1 : Int32) (v2 : Int32) (s : HS) : Option (Int32 × HS) :=
  (if (s.1 101 61) ≤ 0 then (if (s.1 121 0) = (s.1 120 0) then some (0, s) else gd (inb v1 12) (gd (inb (s.1 114 v1.toNatClampNeg) 12) (ltb (sI s 134 (1) (f_X12_away (s.1 107 (s.1 114 v1.toNatClampNeg).toNatClampNeg) (s.1 145 2) s)) fun s8 => bnd (f_X12_comesAt v1 s8) fun y9 => ltb (sI s8 134 (2) (v2 - y9)) fun s10 => gd (inb v1 12) ((if (s10.1 113 v1.toNatClampNeg) = 1 then f_X12_orderOf_j107 v1 0 3 s10 else f_X12_orderOf_j107 v1 1 3 s10))))) else (if (s.1 101 61) = 2 then gd (inb v1 12) ((if (s.1 113 v1.toNatClampNeg) = 1 then some (1, s) else some (0, s))) else some (0, s)))
set_option maxRecDepth 20000 in
set_option maxHeartbeats 2000000 in
theorem t_X12_orderOf (v1 : Int32) (v2 : Int32) (s : HS) {x : Int32} {t : HS} (hf : f_X12_orderOf  v1 v2 s = some (x, t)) : Mt DDX12_orderOf miX12_orderOf [.ref 101, .int v1, .int v2] NF (hp s) (some (.int x)) NF (hp t) := by
  refine Mt.of (by decide +kernel) (Nat.le_refl _) (Nat.le_of_ble_eq_true rfl) ?_
  show Ev DDX12_orderOf miX12_orderOf NF (some (.int x)) NF (hp t) 0 NF [(0, .ref 101), (1, .int v1), (2, .int v2)] [] (hp s)
  unfold f_X12_orderOf at hf
  refine e_aload_n dX12_orderOf_0 0 rfl rfl (pc2 := 1) rfl ?_
  refine e_getI fl_X12_470 dX12_orderOf_1 so_101 (by decide) (pc2 := 4) rfl ?_
  refine e_if_le (tgt := 31) dX12_orderOf_4 (by decide) (pc2 := 7) rfl (fun c1 => ?_) (fun c1 => ?_)
  · have hf := if_t c1 hf
    refine e_aload_n dX12_orderOf_31 0 rfl rfl (pc2 := 32) rfl ?_
    refine e_getR (r := 121) fl_X12_68 dX12_orderOf_32 so_101 (rs_101_28 s.2.2) (by decide) (pc2 := 35) rfl ?_
    refine e_iconst (x := 0) dX12_orderOf_35 (by decide) (pc2 := 36) rfl ?_
    refine e_iald dX12_orderOf_36 sa_121 (inb_v (by decide)) (pc2 := 37) rfl ?_
    refine e_aload_n dX12_orderOf_37 0 rfl rfl (pc2 := 38) rfl ?_
    refine e_getR (r := 120) fl_X12_65 dX12_orderOf_38 so_101 (rs_101_27 s.2.2) (by decide) (pc2 := 41) rfl ?_
    refine e_iconst (x := 0) dX12_orderOf_41 (by decide) (pc2 := 42) rfl ?_
    refine e_iald dX12_orderOf_42 sa_120 (inb_v (by decide)) (pc2 := 43) rfl ?_
    refine e_icmp_ne (tgt := 48) dX12_orderOf_43 (by decide) (pc2 := 46) rfl (fun c4 => ?_) (fun c4 => ?_)
    · have hf := if_f c4 hf
      refine e_aload_n dX12_orderOf_48 0 rfl rfl (pc2 := 49) rfl ?_
      refine e_getR (r := 134) fl_X12_108 dX12_orderOf_49 so_101 (rs_101_43 s.2.2) (by decide) (pc2 := 52) rfl ?_
      refine e_iconst (x := 1) dX12_orderOf_52 (by decide) (pc2 := 53) rfl ?_
      refine e_aload_n dX12_orderOf_53 0 rfl rfl (pc2 := 54) rfl ?_
      refine e_getR (r := 107) fl_X12_26 dX12_orderOf_54 so_101 (rs_101_14 s.2.2) (by decide) (pc2 := 57) rfl ?_
      refine e_aload_n dX12_orderOf_57 0 rfl rfl (pc2 := 58) rfl ?_
      refine e_getR (r := 114) fl_X12_47 dX12_orderOf_58 so_101 (rs_101_21 s.2.2) (by decide) (pc2 := 61) rfl ?_
      refine e_iload_n dX12_orderOf_61 1 rfl rfl (pc2 := 62) rfl ?_
      obtain ⟨g5, hf⟩ := gd_some hf
      refine e_iald dX12_orderOf_62 sa_114 (inb_v g5) (pc2 := 63) rfl ?_
      obtain ⟨g6, hf⟩ := gd_some hf
      refine e_iald dX12_orderOf_63 sa_107 (inb_v g6) (pc2 := 64) rfl ?_
      refine e_aload_n dX12_orderOf_64 0 rfl rfl (pc2 := 65) rfl ?_
      refine e_getR (r := 145) fl_X12_141 dX12_orderOf_65 so_101 (rs_101_55 s.2.2) (by decide) (pc2 := 68) rfl ?_
      refine e_iconst (x := 2) dX12_orderOf_68 (by decide) (pc2 := 69) rfl ?_
      refine e_iald dX12_orderOf_69 sa_145 (inb_v (by decide)) (pc2 := 70) rfl ?_
      refine e_callSs (t_X12_away (s.1 107 (s.1 114 v1.toNatClampNeg).toNatClampNeg) (s.1 145 2) s rfl) dX12_orderOf_70 cs_X12_443 rfl (by decide) (by first | exact Nat.le_of_ble_eq_true rfl | simp [rva_cat, vc_i, vc_r, vc_l, vc_n]) nn0 rfl (pc2 := 73) rfl ?_
      obtain ⟨s8, es8, hf⟩ := ltb_s hf
      refine e_iast dX12_orderOf_73 sa_134 (inb_v (by decide)) (h2 := hp s8) (by rw [es8]; rfl) (pc2 := 74) rfl ?_
      refine e_aload_n dX12_orderOf_74 0 rfl rfl (pc2 := 75) rfl ?_
      refine e_getR (r := 134) fl_X12_108 dX12_orderOf_75 so_101 (rs_101_43 s8.2.2) (by decide) (pc2 := 78) rfl ?_
      refine e_iconst (x := 2) dX12_orderOf_78 (by decide) (pc2 := 79) rfl ?_
      refine e_iload_n dX12_orderOf_79 2 rfl rfl (pc2 := 80) rfl ?_
      refine e_aload_n dX12_orderOf_80 0 rfl rfl (pc2 := 81) rfl ?_
      refine e_iload_n dX12_orderOf_81 1 rfl rfl (pc2 := 82) rfl ?_
      obtain ⟨y9, hy9, hf⟩ := bnd_s hf
      refine e_callVs (t_X12_comesAt v1 s8 hy9) dX12_orderOf_82 cv_X12_473 rfl so_101 rc_11 (by decide) (by first | exact Nat.le_of_ble_eq_true rfl | simp [rva_cat, vc_i, vc_r, vc_l, vc_n]) nn0 rfl (pc2 := 85) rfl ?_
      refine e_isub dX12_orderOf_85 (pc2 := 86) rfl ?_
      obtain ⟨s10, es10, hf⟩ := ltb_s hf
      refine e_iast dX12_orderOf_86 sa_134 (inb_v (by decide)) (h2 := hp s10) (by rw [es10]; rfl) (pc2 := 87) rfl ?_
      refine e_aload_n dX12_orderOf_87 0 rfl rfl (pc2 := 88) rfl ?_
      refine e_getR (r := 134) fl_X12_108 dX12_orderOf_88 so_101 (rs_101_43 s10.2.2) (by decide) (pc2 := 91) rfl ?_
      refine e_iconst (x := 3) dX12_orderOf_91 (by decide) (pc2 := 92) rfl ?_
      refine e_aload_n dX12_orderOf_92 0 rfl rfl (pc2 := 93) rfl ?_
      refine e_getR (r := 113) fl_X12_44 dX12_orderOf_93 so_101 (rs_101_20 s10.2.2) (by decide) (pc2 := 96) rfl ?_
      refine e_iload_n dX12_orderOf_96 1 rfl rfl (pc2 := 97) rfl ?_
      obtain ⟨g11, hf⟩ := gd_some hf
      refine e_iald dX12_orderOf_97 sa_113 (inb_v g11) (pc2 := 98) rfl ?_
      refine e_iconst (x := 1) dX12_orderOf_98 (by decide) (pc2 := 99) rfl ?_
      refine e_icmp_ne (tgt := 106) dX12_orderOf_99 (by decide) (pc2 := 102) rfl (fun c12 => ?_) (fun c12 => ?_)
      · have hf := if_f c12 hf
        refine e_iconst (x := 1) dX12_orderOf_106 (by decide) (pc2 := 107) rfl ?_
        refine ev_sub [0, 1] rfl ?_
        exact t_X12_orderOf_j107 v1 1 3 s10 hf
      · have hf := if_t c12 hf
        refine e_iconst (x := 0) dX12_orderOf_102 (by decide) (pc2 := 103) rfl ?_
        refine e_goto (tgt := 107) dX12_orderOf_103 (by decide) ?_
        refine ev_sub [0, 1] rfl ?_
        exact t_X12_orderOf_j107 v1 0 3 s10 hf
    · have hf := if_t c4 hf
      refine e_iconst (x := 0) dX12_orderOf_46 (by decide) (pc2 := 47) rfl ?_
      cases hf
      exact e_iret rfl dX12_orderOf_47
  · have hf := if_f c1 hf
    refine e_aload_n dX12_orderOf_7 0 rfl rfl (pc2 := 8) rfl ?_
    refine e_getI fl_X12_470 dX12_orderOf_8 so_101 (by decide) (pc2 := 11) rfl ?_
    refine e_iconst (x := 2) dX12_orderOf_11 (by decide) (pc2 := 12) rfl ?_
    refine e_icmp_ne (tgt := 29) dX12_orderOf_12 (by decide) (pc2 := 15) rfl (fun c19 => ?_) (fun c19 => ?_)
    · have hf := if_f c19 hf
      refine e_iconst (x := 0) dX12_orderOf_29 (by decide) (pc2 := 30) rfl ?_
      cases hf
      exact e_iret rfl dX12_orderOf_30
    · have hf := if_t c19 hf
      refine e_aload_n dX12_orderOf_15 0 rfl rfl (pc2 := 16) rfl ?_
      refine e_getR (r := 113) fl_X12_44 dX12_orderOf_16 so_101 (rs_101_20 s.2.2) (by decide) (pc2 := 19) rfl ?_
      refine e_iload_n dX12_orderOf_19 1 rfl rfl (pc2 := 20) rfl ?_
      obtain ⟨g20, hf⟩ := gd_some hf
      refine e_iald dX12_orderOf_20 sa_113 (inb_v g20) (pc2 := 21) rfl ?_
      refine e_iconst (x := 1) dX12_orderOf_21 (by decide) (pc2 := 22) rfl ?_
      refine e_icmp_ne (tgt := 29) dX12_orderOf_22 (by decide) (pc2 := 25) rfl (fun c21 => ?_) (fun c21 => ?_)
      · have hf := if_f c21 hf
        refine e_iconst (x := 0) dX12_orderOf_29 (by decide) (pc2 := 30) rfl ?_
        cases hf
        exact e_iret rfl dX12_orderOf_30
      · have hf := if_t c21 hf
        refine e_iconst (x := 1) dX12_orderOf_25 (by decide) (pc2 := 26) rfl ?_
        refine e_goto (tgt := 30) dX12_orderOf_26 (by decide) ?_
        cases hf
        exact e_iret rfl dX12_orderOf_30
abbrev DDX12_nextAt : Nat := 5
def f_X12_nextAt_j113 (v1 : Int32) (v2 : Int32) (v3 : Int32) (v4 : Int32) (k7 : Int32 → Int32 → Int32 → HS → Option (Int32 × HS)) (s : HS) : Option (Int32 × HS) :=
  ltb (v4 + 1) fun x5 => k7 v2 v3 x5 s
set_option maxRecDepth 20000 in
set_option maxHeartbeats 2000000 in
theorem t_X12_nextAt_j113 (v1 : Int32) (v2 : Int32) (v3 : Int32) (v4 : Int32) (s : HS) {x : Int32} {t : HS} (k7 : Int32 → Int32 → Int32 → HS → Option (Int32 × HS)) (hk7 : ∀ (a2 : Int32) (a3 : Int32) (a4 : Int32) (s : HS), k7 a2 a3 a4 s = some (x, t) → Ev DDX12_nextAt miX12_nextAt NF (some (.int x)) NF (hp t) 7 NF [(0, .ref 101), (1, .int v1), (2, .int a2), (3, .int a3), (4, .int a4)] [] (hp s)) (hf : f_X12_nextAt_j113 v1 v2 v3 v4 k7 s = some (x, t)) : Ev DDX12_nextAt miX12_nextAt NF (some (.int x)) NF (hp t) 113 NF [(0, .ref 101), (1, .int v1), (2, .int v2), (3, .int v3), (4, .int v4)] [] (hp s) := by
  obtain ⟨x5, ex5, hf⟩ := ltb_s hf
  refine e_iinc dX12_nextAt_113 4 rfl (c9 := 1) (by decide) ex5.symm (by decide) (ls' := [(0, .ref 101), (1, .int v1), (2, .int v2), (3, .int v3), (4, .int x5)]) [1, 2, 3, 4, 0] rfl (pc2 := 116) rfl ?_
  refine e_goto (tgt := 7) dX12_nextAt_116 (by decide) ?_
  exact hk7 v2 v3 x5 s hf
def f_X12_nextAt_j107 (v1 : Int32) (v4 : Int32) (v5 : Int32) (k7 : Int32 → Int32 → Int32 → HS → Option (Int32 × HS)) (s : HS) : Option (Int32 × HS) :=
  f_X12_nextAt_j113 v1 v4 v5 v4 k7 s
set_option maxRecDepth 20000 in
set_option maxHeartbeats 2000000 in
theorem t_X12_nextAt_j107 (v1 : Int32) (v4 : Int32) (v5 : Int32) (s : HS) {x : Int32} {t : HS} (k7 : Int32 → Int32 → Int32 → HS → Option (Int32 × HS)) (hk7 : ∀ (a2 : Int32) (a3 : Int32) (a4 : Int32) (s : HS), k7 a2 a3 a4 s = some (x, t) → Ev DDX12_nextAt miX12_nextAt NF (some (.int x)) NF (hp t) 7 NF [(0, .ref 101), (1, .int v1), (2, .int a2), (3, .int a3), (4, .int a4)] [] (hp s)) (hf : f_X12_nextAt_j107 v1 v4 v5 k7 s = some (x, t)) : Ev DDX12_nextAt miX12_nextAt NF (some (.int x)) NF (hp t) 107 NF [(0, .ref 101), (1, .int v1), (4, .int v4), (5, .int v5)] [] (hp s) := by
  refine e_iload dX12_nextAt_107 2 rfl (pc2 := 109) rfl ?_
  refine e_istore_n dX12_nextAt_109 rfl (by decide) rfl (ls' := [(0, .ref 101), (1, .int v1), (2, .int v4), (4, .int v4), (5, .int v5)]) [1, 2, 0, 3, 4] rfl (pc2 := 110) rfl ?_
  refine e_iload dX12_nextAt_110 4 rfl (pc2 := 112) rfl ?_
  refine e_istore_n dX12_nextAt_112 rfl (by decide) rfl (ls' := [(0, .ref 101), (1, .int v1), (2, .int v4), (3, .int v5), (4, .int v4)]) [1, 2, 3, 0, 4] rfl (pc2 := 113) rfl ?_
  exact t_X12_nextAt_j113 v1 v4 v5 v4 s _ hk7 hf
def f_X12_nextAt_l7b (v1 : Int32) (v2 : Int32) (v3 : Int32) (v4 : Int32) (k7 : Int32 → Int32 → Int32 → HS → Option (Int32 × HS)) (s : HS) : Option (Int32 × HS) :=
  (if (s.1 103 2) ≤ v4 then some (v2, s) else (if (((s.1 145 0) >>> (v4 &&& 31)) &&& (1 : Int32)) = 0 then f_X12_nextAt_j113 v1 v2 v3 v4 k7 s else gd (inb v4 6) ((if 0 ≤ (s.1 150 v4.toNatClampNeg) then f_X12_nextAt_j113 v1 v2 v3 v4 k7 s else bnd (f_X12_comesAt v4 s) fun y8 => (if v1 < y8 then f_X12_nextAt_j113 v1 v2 v3 v4 k7 s else bnd (f_X12_goesAt v4 s) fun y10 => (if v1 < y10 then bnd2 (f_X12_orderOf v4 v1 s) fun y12 s13 => (if v2 < 0 then f_X12_nextAt_j107 v1 v4 y12 k7 s13 else (if v3 < y12 then f_X12_nextAt_j113 v1 v2 v3 v4 k7 s13 else (if y12 = v3 then bnd (f_X12_comesAt v4 s13) fun y17 => bnd (f_X12_comesAt v2 s13) fun y18 => (if y17 < y18 then f_X12_nextAt_j107 v1 v4 y12 k7 s13 else f_X12_nextAt_j113 v1 v2 v3 v4 k7 s13) else f_X12_nextAt_j107 v1 v4 y12 k7 s13))) else f_X12_nextAt_j113 v1 v2 v3 v4 k7 s))))))
set_option maxRecDepth 20000 in
set_option maxHeartbeats 2000000 in
theorem t_X12_nextAt_l7b (v1 : Int32) (v2 : Int32) (v3 : Int32) (v4 : Int32) (s : HS) {x : Int32} {t : HS} (k7 : Int32 → Int32 → Int32 → HS → Option (Int32 × HS)) (hk7 : ∀ (a2 : Int32) (a3 : Int32) (a4 : Int32) (s : HS), k7 a2 a3 a4 s = some (x, t) → Ev DDX12_nextAt miX12_nextAt NF (some (.int x)) NF (hp t) 7 NF [(0, .ref 101), (1, .int v1), (2, .int a2), (3, .int a3), (4, .int a4)] [] (hp s)) (hf : f_X12_nextAt_l7b v1 v2 v3 v4 k7 s = some (x, t)) : Ev DDX12_nextAt miX12_nextAt NF (some (.int x)) NF (hp t) 7 NF [(0, .ref 101), (1, .int v1), (2, .int v2), (3, .int v3), (4, .int v4)] [] (hp s) := by
  refine e_iload dX12_nextAt_7 4 rfl (pc2 := 9) rfl ?_
  refine e_aload_n dX12_nextAt_9 0 rfl rfl (pc2 := 10) rfl ?_
  refine e_getR (r := 103) fl_X12_13 dX12_nextAt_10 so_101 (rs_101_10 s.2.2) (by decide) (pc2 := 13) rfl ?_
  refine e_iconst (x := 2) dX12_nextAt_13 (by decide) (pc2 := 14) rfl ?_
  refine e_iald dX12_nextAt_14 sa_103 (inb_v (by decide)) (pc2 := 15) rfl ?_
  refine e_icmp_ge (tgt := 119) dX12_nextAt_15 (by decide) (pc2 := 18) rfl (fun c2 => ?_) (fun c2 => ?_)
  · have hf := if_t c2 hf
    refine e_iload_n dX12_nextAt_119 2 rfl rfl (pc2 := 120) rfl ?_
    cases hf
    exact e_iret rfl dX12_nextAt_120
  · have hf := if_f c2 hf
    refine e_aload_n dX12_nextAt_18 0 rfl rfl (pc2 := 19) rfl ?_
    refine e_getR (r := 145) fl_X12_141 dX12_nextAt_19 so_101 (rs_101_55 s.2.2) (by decide) (pc2 := 22) rfl ?_
    refine e_iconst (x := 0) dX12_nextAt_22 (by decide) (pc2 := 23) rfl ?_
    refine e_iald dX12_nextAt_23 sa_145 (inb_v (by decide)) (pc2 := 24) rfl ?_
    refine e_iload dX12_nextAt_24 4 rfl (pc2 := 26) rfl ?_
    refine e_ishr dX12_nextAt_26 (pc2 := 27) rfl ?_
    refine e_iconst (x := 1) dX12_nextAt_27 (by decide) (pc2 := 28) rfl ?_
    refine e_iand dX12_nextAt_28 (pc2 := 29) rfl ?_
    refine e_if_eq (tgt := 113) dX12_nextAt_29 (by decide) (pc2 := 32) rfl (fun c4 => ?_) (fun c4 => ?_)
    · have hf := if_t c4 hf
      exact t_X12_nextAt_j113 v1 v2 v3 v4 s _ hk7 hf
    · have hf := if_f c4 hf
      refine e_aload_n dX12_nextAt_32 0 rfl rfl (pc2 := 33) rfl ?_
      refine e_getR (r := 150) fl_X12_163 dX12_nextAt_33 so_101 (rs_101_67 s.2.2) (by decide) (pc2 := 36) rfl ?_
      refine e_iload dX12_nextAt_36 4 rfl (pc2 := 38) rfl ?_
      obtain ⟨g6, hf⟩ := gd_some hf
      refine e_iald dX12_nextAt_38 sa_150 (inb_v g6) (pc2 := 39) rfl ?_
      refine e_if_ge (tgt := 113) dX12_nextAt_39 (by decide) (pc2 := 42) rfl (fun c7 => ?_) (fun c7 => ?_)
      · have hf := if_t c7 hf
        exact t_X12_nextAt_j113 v1 v2 v3 v4 s _ hk7 hf
      · have hf := if_f c7 hf
        refine e_aload_n dX12_nextAt_42 0 rfl rfl (pc2 := 43) rfl ?_
        refine e_iload dX12_nextAt_43 4 rfl (pc2 := 45) rfl ?_
        obtain ⟨y8, hy8, hf⟩ := bnd_s hf
        refine e_callVs (t_X12_comesAt v4 s hy8) dX12_nextAt_45 cv_X12_473 rfl so_101 rc_11 (by decide) (by first | exact Nat.le_of_ble_eq_true rfl | simp [rva_cat, vc_i, vc_r, vc_l, vc_n]) nn0 rfl (pc2 := 48) rfl ?_
        refine e_iload_n dX12_nextAt_48 1 rfl rfl (pc2 := 49) rfl ?_
        refine e_icmp_gt (tgt := 113) dX12_nextAt_49 (by decide) (pc2 := 52) rfl (fun c9 => ?_) (fun c9 => ?_)
        · have hf := if_t c9 hf
          exact t_X12_nextAt_j113 v1 v2 v3 v4 s _ hk7 hf
        · have hf := if_f c9 hf
          refine e_iload_n dX12_nextAt_52 1 rfl rfl (pc2 := 53) rfl ?_
          refine e_aload_n dX12_nextAt_53 0 rfl rfl (pc2 := 54) rfl ?_
          refine e_iload dX12_nextAt_54 4 rfl (pc2 := 56) rfl ?_
          obtain ⟨y10, hy10, hf⟩ := bnd_s hf
          refine e_callVs (t_X12_goesAt v4 s hy10) dX12_nextAt_56 cv_X12_482 rfl so_101 rc_11 (by decide) (by first | exact Nat.le_of_ble_eq_true rfl | simp [rva_cat, vc_i, vc_r, vc_l, vc_n]) nn0 rfl (pc2 := 59) rfl ?_
          refine e_icmp_lt (tgt := 65) dX12_nextAt_59 (by decide) (pc2 := 62) rfl (fun c11 => ?_) (fun c11 => ?_)
          · have hf := if_t c11 hf
            refine e_aload_n dX12_nextAt_65 0 rfl rfl (pc2 := 66) rfl ?_
            refine e_iload dX12_nextAt_66 4 rfl (pc2 := 68) rfl ?_
            refine e_iload_n dX12_nextAt_68 1 rfl rfl (pc2 := 69) rfl ?_
            obtain ⟨y12, s13, hy12, hf⟩ := bnd2_s hf
            refine e_callVs (t_X12_orderOf v4 v1 s hy12) dX12_nextAt_69 cv_X12_485 rfl so_101 rc_11 (by decide) (by first | exact Nat.le_of_ble_eq_true rfl | simp [rva_cat, vc_i, vc_r, vc_l, vc_n]) nn0 rfl (pc2 := 72) rfl ?_
            refine e_istore dX12_nextAt_72 (by decide) rfl (ls' := [(0, .ref 101), (1, .int v1), (2, .int v2), (3, .int v3), (4, .int v4), (5, .int y12)]) [1, 2, 3, 4, 5, 0] rfl (pc2 := 74) rfl ?_
            refine e_iload_n dX12_nextAt_74 2 rfl rfl (pc2 := 75) rfl ?_
            refine e_if_lt (tgt := 107) dX12_nextAt_75 (by decide) (pc2 := 78) rfl (fun c14 => ?_) (fun c14 => ?_)
            · have hf := if_t c14 hf
              refine ev_sub [0, 1, 4, 5] rfl ?_
              exact t_X12_nextAt_j107 v1 v4 y12 s13 _ hk7 hf
            · have hf := if_f c14 hf
              refine e_iload dX12_nextAt_78 5 rfl (pc2 := 80) rfl ?_
              refine e_iload_n dX12_nextAt_80 3 rfl rfl (pc2 := 81) rfl ?_
              refine e_icmp_gt (tgt := 113) dX12_nextAt_81 (by decide) (pc2 := 84) rfl (fun c15 => ?_) (fun c15 => ?_)
              · have hf := if_t c15 hf
                refine ev_sub [0, 1, 2, 3, 4] rfl ?_
                exact t_X12_nextAt_j113 v1 v2 v3 v4 s13 _ hk7 hf
              · have hf := if_f c15 hf
                refine e_iload dX12_nextAt_84 5 rfl (pc2 := 86) rfl ?_
                refine e_iload_n dX12_nextAt_86 3 rfl rfl (pc2 := 87) rfl ?_
                refine e_icmp_ne (tgt := 107) dX12_nextAt_87 (by decide) (pc2 := 90) rfl (fun c16 => ?_) (fun c16 => ?_)
                · have hf := if_f c16 hf
                  refine ev_sub [0, 1, 4, 5] rfl ?_
                  exact t_X12_nextAt_j107 v1 v4 y12 s13 _ hk7 hf
                · have hf := if_t c16 hf
                  refine e_aload_n dX12_nextAt_90 0 rfl rfl (pc2 := 91) rfl ?_
                  refine e_iload dX12_nextAt_91 4 rfl (pc2 := 93) rfl ?_
                  obtain ⟨y17, hy17, hf⟩ := bnd_s hf
                  refine e_callVs (t_X12_comesAt v4 s13 hy17) dX12_nextAt_93 cv_X12_473 rfl so_101 rc_11 (by decide) (by first | exact Nat.le_of_ble_eq_true rfl | simp [rva_cat, vc_i, vc_r, vc_l, vc_n]) nn0 rfl (pc2 := 96) rfl ?_
                  refine e_aload_n dX12_nextAt_96 0 rfl rfl (pc2 := 97) rfl ?_
                  refine e_iload_n dX12_nextAt_97 2 rfl rfl (pc2 := 98) rfl ?_
                  obtain ⟨y18, hy18, hf⟩ := bnd_s hf
                  refine e_callVs (t_X12_comesAt v2 s13 hy18) dX12_nextAt_98 cv_X12_473 rfl so_101 rc_11 (by decide) (by first | exact Nat.le_of_ble_eq_true rfl | simp [rva_cat, vc_i, vc_r, vc_l, vc_n]) nn0 rfl (pc2 := 101) rfl ?_
                  refine e_icmp_lt (tgt := 107) dX12_nextAt_101 (by decide) (pc2 := 104) rfl (fun c19 => ?_) (fun c19 => ?_)
                  · have hf := if_t c19 hf
                    refine ev_sub [0, 1, 4, 5] rfl ?_
                    exact t_X12_nextAt_j107 v1 v4 y12 s13 _ hk7 hf
                  · have hf := if_f c19 hf
                    refine e_goto (tgt := 113) dX12_nextAt_104 (by decide) ?_
                    refine ev_sub [0, 1, 2, 3, 4] rfl ?_
                    exact t_X12_nextAt_j113 v1 v2 v3 v4 s13 _ hk7 hf
          · have hf := if_f c11 hf
            refine e_goto (tgt := 113) dX12_nextAt_62 (by decide) ?_
            exact t_X12_nextAt_j113 v1 v2 v3 v4 s _ hk7 hf
def f_X12_nextAt_l7 (v1 : Int32) : Nat → Int32 → Int32 → Int32 → HS → Option (Int32 × HS)
  | 0, _, _, _, _ => none
  | n + 1, v2, v3, v4, s => f_X12_nextAt_l7b v1 v2 v3 v4 (f_X12_nextAt_l7 v1 n)  s
set_option maxRecDepth 20000 in
set_option maxHeartbeats 2000000 in
theorem t_X12_nextAt_l7 (v1 : Int32) {x : Int32} {t : HS}  : ∀ (n : Nat) (v2 : Int32) (v3 : Int32) (v4 : Int32) (s : HS), f_X12_nextAt_l7 v1 n v2 v3 v4 s = some (x, t) → Ev DDX12_nextAt miX12_nextAt NF (some (.int x)) NF (hp t) 7 NF [(0, .ref 101), (1, .int v1), (2, .int v2), (3, .int v3), (4, .int v4)] [] (hp s) := by
  intro n
  induction n with
  | zero =>
    intro v2 v3 v4 s hf
    have hf : none = some (x, t) := hf
    cases hf
  | succ n ih =>
    intro v2 v3 v4 s hf
    exact t_X12_nextAt_l7b v1 v2 v3 v4  s _ ih  hf
def f_X12_nextAt (v1 : Int32) (s : HS) : Option (Int32 × HS) :=
  f_X12_nextAt_l7 v1 FU (-1) 0 0 s
set_option maxRecDepth 20000 in
set_option maxHeartbeats 2000000 in
theorem t_X12_nextAt (v1 : Int32) (s : HS) {x : Int32} {t : HS} (hf : f_X12_nextAt  v1 s = some (x, t)) : Mt DDX12_nextAt miX12_nextAt [.ref 101, .int v1] NF (hp s) (some (.int x)) NF (hp t) := by
  refine Mt.of (by decide +kernel) (Nat.le_refl _) (Nat.le_of_ble_eq_true rfl) ?_
  show Ev DDX12_nextAt miX12_nextAt NF (some (.int x)) NF (hp t) 0 NF [(0, .ref 101), (1, .int v1)] [] (hp s)
  unfold f_X12_nextAt at hf
  refine e_iconst (x := (-1)) dX12_nextAt_0 (by decide) (pc2 := 1) rfl ?_
  refine e_istore_n dX12_nextAt_1 rfl (by decide) rfl (ls' := [(0, .ref 101), (1, .int v1), (2, .int (-1))]) [1, 2, 0] rfl (pc2 := 2) rfl ?_
  refine e_iconst (x := 0) dX12_nextAt_2 (by decide) (pc2 := 3) rfl ?_
  refine e_istore_n dX12_nextAt_3 rfl (by decide) rfl (ls' := [(0, .ref 101), (1, .int v1), (2, .int (-1)), (3, .int 0)]) [1, 2, 3, 0] rfl (pc2 := 4) rfl ?_
  refine e_iconst (x := 0) dX12_nextAt_4 (by decide) (pc2 := 5) rfl ?_
  refine e_istore dX12_nextAt_5 (by decide) rfl (ls' := [(0, .ref 101), (1, .int v1), (2, .int (-1)), (3, .int 0), (4, .int 0)]) [1, 2, 3, 4, 0] rfl (pc2 := 7) rfl ?_
  refine t_X12_nextAt_l7 v1 FU (-1) 0 0 s hf
abbrev DDX12_heatAt : Nat := 1
def f_X12_heatAt_j37 (v2 : Int32) (w0 : Int32) (s : HS) : Option Int32 :=
  gd (inb (4 + v2) 9) (gd (inb v2 10) (some (imax 0 ((s.1 145 (4 + v2).toNatClampNeg) - (((s.1 112 v2.toNatClampNeg) * w0) / 60)))))
set_option maxRecDepth 20000 in
set_option maxHeartbeats 2000000 in
theorem t_X12_heatAt_j37 (v2 : Int32) (w0 : Int32) (s : HS) {x : Int32}  (hf : f_X12_heatAt_j37 v2 w0 s = some x) : Ev DDX12_heatAt miX12_heatAt NF (some (.int x)) NF (hp s) 37 NF [(0, .ref 101), (2, .int v2)] [.int w0] (hp s) := by
  refine e_istore dX12_heatAt_37 (by decide) rfl (ls' := [(0, .ref 101), (2, .int v2), (4, .int w0)]) [1, 2, 0] rfl (pc2 := 39) rfl ?_
  refine e_iconst (x := 0) dX12_heatAt_39 (by decide) (pc2 := 40) rfl ?_
  refine e_aload_n dX12_heatAt_40 0 rfl rfl (pc2 := 41) rfl ?_
  refine e_getR (r := 145) fl_X12_141 dX12_heatAt_41 so_101 (rs_101_55 s.2.2) (by decide) (pc2 := 44) rfl ?_
  refine e_iconst (x := 4) dX12_heatAt_44 (by decide) (pc2 := 45) rfl ?_
  refine e_iload_n dX12_heatAt_45 1 rfl rfl (pc2 := 46) rfl ?_
  refine e_iadd dX12_heatAt_46 (pc2 := 47) rfl ?_
  obtain ⟨g4, hf⟩ := gd_some hf
  refine e_iald dX12_heatAt_47 sa_145 (inb_v g4) (pc2 := 48) rfl ?_
  refine e_aload_n dX12_heatAt_48 0 rfl rfl (pc2 := 49) rfl ?_
  refine e_getR (r := 112) fl_X12_41 dX12_heatAt_49 so_101 (rs_101_19 s.2.2) (by decide) (pc2 := 52) rfl ?_
  refine e_iload_n dX12_heatAt_52 1 rfl rfl (pc2 := 53) rfl ?_
  obtain ⟨g5, hf⟩ := gd_some hf
  refine e_iald dX12_heatAt_53 sa_112 (inb_v g5) (pc2 := 54) rfl ?_
  refine e_iload dX12_heatAt_54 2 rfl (pc2 := 56) rfl ?_
  refine e_imul dX12_heatAt_56 (pc2 := 57) rfl ?_
  refine e_bipush (x := 60) dX12_heatAt_57 (by decide) (pc2 := 59) rfl ?_
  refine e_idiv dX12_heatAt_59 (by decide) (pc2 := 60) rfl ?_
  refine e_isub dX12_heatAt_60 (pc2 := 61) rfl ?_
  refine e_mmax dX12_heatAt_61 mm_X12_455 (by decide) nn0 (by first | exact Nat.le_of_ble_eq_true rfl | simp [rva_cat, vc_i, vc_r, vc_l, vc_n]) (pc2 := 64) rfl ?_
  cases hf
  exact e_iret rfl dX12_heatAt_64
def f_X12_heatAt_j29 (v1 : Int32) (v2 : Int32) (v3 : Int32) (s : HS) : Option Int32 :=
  gd (inb v1 6) (f_X12_heatAt_j37 v2 (v3 - (s.1 151 v1.toNatClampNeg)) s)
set_option maxRecDepth 20000 in
set_option maxHeartbeats 2000000 in
theorem t_X12_heatAt_j29 (v1 : Int32) (v2 : Int32) (v3 : Int32) (s : HS) {x : Int32}  (hf : f_X12_heatAt_j29 v1 v2 v3 s = some x) : Ev DDX12_heatAt miX12_heatAt NF (some (.int x)) NF (hp s) 29 NF [(0, .ref 101), (1, .int v1), (2, .int v2), (3, .int v3)] [] (hp s) := by
  refine e_iload_n dX12_heatAt_29 3 rfl rfl (pc2 := 30) rfl ?_
  refine e_aload_n dX12_heatAt_30 0 rfl rfl (pc2 := 31) rfl ?_
  refine e_getR (r := 151) fl_X12_166 dX12_heatAt_31 so_101 (rs_101_68 s.2.2) (by decide) (pc2 := 34) rfl ?_
  refine e_iload_n dX12_heatAt_34 1 rfl rfl (pc2 := 35) rfl ?_
  obtain ⟨g3, hf⟩ := gd_some hf
  refine e_iald dX12_heatAt_35 sa_151 (inb_v g3) (pc2 := 36) rfl ?_
  refine e_isub dX12_heatAt_36 (pc2 := 37) rfl ?_
  refine ev_sub [0, 2] rfl ?_
  exact t_X12_heatAt_j37 v2 (v3 - (s.1 151 v1.toNatClampNeg)) s hf
def f_X12_heatAt (v1 : Int32) (v2 : Int32) (v3 : Int32) (s : HS) : Option Int32 :=
  gd (inb v1 6) ((if (s.1 155 v1.toNatClampNeg) = 0 then f_X12_heatAt_j29 v1 v2 v3 s else (if v2 = (s.1 101 64) then f_X12_heatAt_j37 v2 ((60 * (s.1 101 66)) + v3) s else f_X12_heatAt_j29 v1 v2 v3 s)))
set_option maxRecDepth 20000 in
set_option maxHeartbeats 2000000 in
theorem t_X12_heatAt (v1 : Int32) (v2 : Int32) (v3 : Int32) (s : HS) {x : Int32} (hf : f_X12_heatAt  v1 v2 v3 s = some x) : Mt DDX12_heatAt miX12_heatAt [.ref 101, .int v1, .int v2, .int v3] NF (hp s) (some (.int x)) NF (hp s) := by
  refine Mt.of (by decide +kernel) (Nat.le_refl _) (Nat.le_of_ble_eq_true rfl) ?_
  show Ev DDX12_heatAt miX12_heatAt NF (some (.int x)) NF (hp s) 0 NF [(0, .ref 101), (1, .int v1), (2, .int v2), (3, .int v3)] [] (hp s)
  unfold f_X12_heatAt at hf
  refine e_aload_n dX12_heatAt_0 0 rfl rfl (pc2 := 1) rfl ?_
  refine e_getR (r := 155) fl_X12_178 dX12_heatAt_1 so_101 (rs_101_72 s.2.2) (by decide) (pc2 := 4) rfl ?_
  refine e_iload_n dX12_heatAt_4 1 rfl rfl (pc2 := 5) rfl ?_
  obtain ⟨g1, hf⟩ := gd_some hf
  refine e_zald dX12_heatAt_5 sa_155 (inb_v g1) (pc2 := 6) rfl ?_
  refine e_if_eq (tgt := 29) dX12_heatAt_6 (by decide) (pc2 := 9) rfl (fun c2 => ?_) (fun c2 => ?_)
  · have hf := if_t c2 hf
    exact t_X12_heatAt_j29 v1 v2 v3 s hf
  · have hf := if_f c2 hf
    refine e_iload_n dX12_heatAt_9 2 rfl rfl (pc2 := 10) rfl ?_
    refine e_aload_n dX12_heatAt_10 0 rfl rfl (pc2 := 11) rfl ?_
    refine e_getI fl_X12_160 dX12_heatAt_11 so_101 (by decide) (pc2 := 14) rfl ?_
    refine e_icmp_ne (tgt := 29) dX12_heatAt_14 (by decide) (pc2 := 17) rfl (fun c6 => ?_) (fun c6 => ?_)
    · have hf := if_f c6 hf
      exact t_X12_heatAt_j29 v1 v2 v3 s hf
    · have hf := if_t c6 hf
      refine e_bipush (x := 60) dX12_heatAt_17 (by decide) (pc2 := 19) rfl ?_
      refine e_aload_n dX12_heatAt_19 0 rfl rfl (pc2 := 20) rfl ?_
      refine e_getI fl_X12_497 dX12_heatAt_20 so_101 (by decide) (pc2 := 23) rfl ?_
      refine e_imul dX12_heatAt_23 (pc2 := 24) rfl ?_
      refine e_iload_n dX12_heatAt_24 3 rfl rfl (pc2 := 25) rfl ?_
      refine e_iadd dX12_heatAt_25 (pc2 := 26) rfl ?_
      refine e_goto (tgt := 37) dX12_heatAt_26 (by decide) ?_
      refine ev_sub [0, 2] rfl ?_
      exact t_X12_heatAt_j37 v2 ((60 * (s.1 101 66)) + v3) s hf
