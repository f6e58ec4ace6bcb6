abbrev DDX6_drink : Nat := 2
def f_X6_drink_j190 (v1 : Int32) (v2 : Nat) (v4 : Int32) (v5 : Int32) (v6 : Int32) (v9 : Int32) (k23 : Int32 → Int32 → Int32 → HS → Option HS) (s : HS) : Option HS :=
  gd (inb v1 6) (gd (inb v1 6) (ltb (sI s 79 (v1.toNatClampNeg) ((s.1 79 v1.toNatClampNeg) ||| ((1 : Int32) <<< (v6 &&& 31)))) fun s17 => ltb (v5 + 1) fun x19 => k23 v9 v4 x19 s17))
set_option maxRecDepth 20000 in
set_option maxHeartbeats 2000000 in
theorem t_X6_drink_j190 (v1 : Int32) (v2 : Nat) (v4 : Int32) (v5 : Int32) (v6 : Int32) (v9 : Int32) (hv2 : okX0 v2 = true) (s : HS) {t : HS} (k23 : Int32 → Int32 → Int32 → HS → Option HS) (hk23 : ∀ (a3 : Int32) (a4 : Int32) (a5 : Int32) (s : HS), k23 a3 a4 a5 s = some t → Ev DDX6_drink miX6_drink NF none NF (hp t) 23 NF [(0, .ref 73), (1, .int v1), (2, .ref v2), (3, .int a3), (4, .int a4), (5, .int a5)] [] (hp s)) (hf : f_X6_drink_j190 v1 v2 v4 v5 v6 v9 k23 s = some t) : Ev DDX6_drink miX6_drink NF none NF (hp t) 190 NF [(0, .ref 73), (1, .int v1), (2, .ref v2), (4, .int v4), (5, .int v5), (6, .int v6), (9, .int v9)] [] (hp s) := by
  refine e_aload_n dX6_drink_190 0 rfl rfl (pc2 := 191) rfl ?_
  refine e_getR (r := 79) fl_X6_27 dX6_drink_191 so_73 (rs_73_13 s.2.2) (by decide) (pc2 := 194) rfl ?_
  refine e_iload_n dX6_drink_194 1 rfl rfl (pc2 := 195) rfl ?_
  refine e_dup2 dX6_drink_195 rfl rfl (pc2 := 196) rfl ?_
  obtain ⟨g16, hf⟩ := gd_some hf
  refine e_iald dX6_drink_196 sa_79 (inb_v g16) (pc2 := 197) rfl ?_
  refine e_iconst (x := 1) dX6_drink_197 (by decide) (pc2 := 198) rfl ?_
  refine e_iload dX6_drink_198 5 rfl (pc2 := 200) rfl ?_
  refine e_ishl dX6_drink_200 (pc2 := 201) rfl ?_
  refine e_ior dX6_drink_201 (pc2 := 202) rfl ?_
  obtain ⟨g18, hf⟩ := gd_some hf
  obtain ⟨s17, es17, hf⟩ := ltb_s hf
  refine e_iast dX6_drink_202 sa_79 (inb_v g18) (h2 := hp s17) (by rw [es17]; rfl) (pc2 := 203) rfl ?_
  refine e_iload dX6_drink_203 6 rfl (pc2 := 205) rfl ?_
  refine e_istore_n dX6_drink_205 rfl (by decide) rfl (ls' := [(0, .ref 73), (1, .int v1), (2, .ref v2), (3, .int v9), (4, .int v4), (5, .int v5)]) [1, 2, 3, 0, 4, 5] rfl (pc2 := 206) rfl ?_
  obtain ⟨x19, ex19, hf⟩ := ltb_s hf
  refine e_iinc dX6_drink_206 5 rfl (c9 := 1) (by decide) ex19.symm (by decide) (ls' := [(0, .ref 73), (1, .int v1), (2, .ref v2), (3, .int v9), (4, .int v4), (5, .int x19)]) [1, 2, 3, 4, 5, 0] rfl (pc2 := 209) rfl ?_
  refine e_goto (tgt := 23) dX6_drink_209 (by decide) ?_
  exact hk23 v9 v4 x19 s17 hf
def f_X6_drink_j163 (v1 : Int32) (v2 : Nat) (v4 : Int32) (v5 : Int32) (v6 : Int32) (v9 : Int32) (k23 : Int32 → Int32 → Int32 → HS → Option HS) (s : HS) : Option HS :=
  gd (inb v1 6) (gd (inb v1 6) (ltb (sI s 78 (v1.toNatClampNeg) ((s.1 78 v1.toNatClampNeg) ||| ((1 : Int32) <<< (v6 &&& 31)))) fun s22 => gd (okX4 (s22.2.2.2.2.1)) (ltb (v9 + (s22.1 (s22.2.2.2.2.1) 5)) fun x25 => ltb (v5 + 1) fun x26 => k23 x25 v4 x26 s22)))
set_option maxRecDepth 20000 in
set_option maxHeartbeats 2000000 in
theorem t_X6_drink_j163 (v1 : Int32) (v2 : Nat) (v4 : Int32) (v5 : Int32) (v6 : Int32) (v9 : Int32) (hv2 : okX0 v2 = true) (s : HS) {t : HS} (k23 : Int32 → Int32 → Int32 → HS → Option HS) (hk23 : ∀ (a3 : Int32) (a4 : Int32) (a5 : Int32) (s : HS), k23 a3 a4 a5 s = some t → Ev DDX6_drink miX6_drink NF none NF (hp t) 23 NF [(0, .ref 73), (1, .int v1), (2, .ref v2), (3, .int a3), (4, .int a4), (5, .int a5)] [] (hp s)) (hf : f_X6_drink_j163 v1 v2 v4 v5 v6 v9 k23 s = some t) : Ev DDX6_drink miX6_drink NF none NF (hp t) 163 NF [(0, .ref 73), (1, .int v1), (2, .ref v2), (4, .int v4), (5, .int v5), (6, .int v6), (9, .int v9)] [] (hp s) := by
  refine e_aload_n dX6_drink_163 0 rfl rfl (pc2 := 164) rfl ?_
  refine e_getR (r := 78) fl_X6_24 dX6_drink_164 so_73 (rs_73_12 s.2.2) (by decide) (pc2 := 167) rfl ?_
  refine e_iload_n dX6_drink_167 1 rfl rfl (pc2 := 168) rfl ?_
  refine e_dup2 dX6_drink_168 rfl rfl (pc2 := 169) rfl ?_
  obtain ⟨g21, hf⟩ := gd_some hf
  refine e_iald dX6_drink_169 sa_78 (inb_v g21) (pc2 := 170) rfl ?_
  refine e_iconst (x := 1) dX6_drink_170 (by decide) (pc2 := 171) rfl ?_
  refine e_iload dX6_drink_171 5 rfl (pc2 := 173) rfl ?_
  refine e_ishl dX6_drink_173 (pc2 := 174) rfl ?_
  refine e_ior dX6_drink_174 (pc2 := 175) rfl ?_
  obtain ⟨g23, hf⟩ := gd_some hf
  obtain ⟨s22, es22, hf⟩ := ltb_s hf
  refine e_iast dX6_drink_175 sa_78 (inb_v g23) (h2 := hp s22) (by rw [es22]; rfl) (pc2 := 176) rfl ?_
  refine e_iload dX6_drink_176 6 rfl (pc2 := 178) rfl ?_
  refine e_aload_n dX6_drink_178 0 rfl rfl (pc2 := 179) rfl ?_
  obtain ⟨g24, hf⟩ := gd_some hf
  refine e_getR (r := s22.2.2.2.2.1) fl_X6_33 dX6_drink_179 so_73 rfl (okX4_ne g24) (pc2 := 182) rfl ?_
  refine e_getI fl_X6_187 dX6_drink_182 (okX4_o g24) (by decide) (pc2 := 185) rfl ?_
  refine e_iadd dX6_drink_185 (pc2 := 186) rfl ?_
  obtain ⟨x25, ex25, hf⟩ := ltb_s hf
  refine e_istore_n dX6_drink_186 rfl (by decide) ex25.symm (ls' := [(0, .ref 73), (1, .int v1), (2, .ref v2), (3, .int x25), (4, .int v4), (5, .int v5)]) [1, 2, 3, 0, 4, 5] rfl (pc2 := 187) rfl ?_
  refine e_goto (tgt := 206) dX6_drink_187 (by decide) ?_
  obtain ⟨x26, ex26, hf⟩ := ltb_s hf
  refine e_iinc dX6_drink_206 5 rfl (c9 := 1) (by decide) ex26.symm (by decide) (ls' := [(0, .ref 73), (1, .int v1), (2, .ref v2), (3, .int x25), (4, .int v4), (5, .int x26)]) [1, 2, 3, 4, 5, 0] rfl (pc2 := 209) rfl ?_
  refine e_goto (tgt := 23) dX6_drink_209 (by decide) ?_
  exact hk23 x25 v4 x26 s22 hf
def f_X6_drink_j135 (v1 : Int32) (v2 : Nat) (v5 : Int32) (v6 : Int32) (v7 : Int32) (v8 : Int32) (v9 : Int32) (w0 : Int32) (k23 : Int32 → Int32 → Int32 → HS → Option HS) (s : HS) : Option HS :=
  (if w0 = 0 then f_X6_drink_j190 v1 v2 w0 v5 v6 v9 k23 s else (if v7 = 0 then f_X6_drink_j163 v1 v2 w0 v5 v6 v9 k23 s else bnd (f_X6_heatOf v6 (v9 - v8) s) fun y27 => (if y27 < 20 then f_X6_drink_j190 v1 v2 w0 v5 v6 v9 k23 s else f_X6_drink_j163 v1 v2 w0 v5 v6 v9 k23 s)))
set_option maxRecDepth 20000 in
set_option maxHeartbeats 2000000 in
theorem t_X6_drink_j135 (v1 : Int32) (v2 : Nat) (v5 : Int32) (v6 : Int32) (v7 : Int32) (v8 : Int32) (v9 : Int32) (w0 : Int32) (hv2 : okX0 v2 = true) (s : HS) {t : HS} (k23 : Int32 → Int32 → Int32 → HS → Option HS) (hk23 : ∀ (a3 : Int32) (a4 : Int32) (a5 : Int32) (s : HS), k23 a3 a4 a5 s = some t → Ev DDX6_drink miX6_drink NF none NF (hp t) 23 NF [(0, .ref 73), (1, .int v1), (2, .ref v2), (3, .int a3), (4, .int a4), (5, .int a5)] [] (hp s)) (hf : f_X6_drink_j135 v1 v2 v5 v6 v7 v8 v9 w0 k23 s = some t) : Ev DDX6_drink miX6_drink NF none NF (hp t) 135 NF [(0, .ref 73), (1, .int v1), (2, .ref v2), (5, .int v5), (6, .int v6), (7, .int v7), (8, .int v8), (9, .int v9)] [.int w0] (hp s) := by
  refine e_istore dX6_drink_135 (by decide) rfl (ls' := [(0, .ref 73), (1, .int v1), (2, .ref v2), (4, .int w0), (5, .int v5), (6, .int v6), (7, .int v7), (8, .int v8), (9, .int v9)]) [1, 2, 3, 0, 4, 5, 6, 7, 8] rfl (pc2 := 137) rfl ?_
  refine e_iload dX6_drink_137 3 rfl (pc2 := 139) rfl ?_
  refine e_if_eq (tgt := 190) dX6_drink_139 (by decide) (pc2 := 142) rfl (fun c15 => ?_) (fun c15 => ?_)
  · have hf := if_t c15 hf
    refine ev_sub [0, 1, 2, 3, 4, 5, 8] rfl ?_
    exact t_X6_drink_j190 v1 v2 w0 v5 v6 v9 hv2 s _ hk23 hf
  · have hf := if_f c15 hf
    refine e_iload dX6_drink_142 6 rfl (pc2 := 144) rfl ?_
    refine e_if_eq (tgt := 163) dX6_drink_144 (by decide) (pc2 := 147) rfl (fun c20 => ?_) (fun c20 => ?_)
    · have hf := if_t c20 hf
      refine ev_sub [0, 1, 2, 3, 4, 5, 8] rfl ?_
      exact t_X6_drink_j163 v1 v2 w0 v5 v6 v9 hv2 s _ hk23 hf
    · have hf := if_f c20 hf
      refine e_aload_n dX6_drink_147 0 rfl rfl (pc2 := 148) rfl ?_
      refine e_iload dX6_drink_148 5 rfl (pc2 := 150) rfl ?_
      refine e_iload dX6_drink_150 8 rfl (pc2 := 152) rfl ?_
      refine e_iload dX6_drink_152 7 rfl (pc2 := 154) rfl ?_
      refine e_isub dX6_drink_154 (pc2 := 155) rfl ?_
      obtain ⟨y27, hy27, hf⟩ := bnd_s hf
      refine e_callVs (t_X6_heatOf v6 (v9 - v8) s hy27) dX6_drink_155 cv_X6_190 rfl so_73 rc_6 (by decide) (by first | exact Nat.le_of_ble_eq_true rfl | simp [rva_cat, vc_i, vc_r, vc_l, vc_n]) nn0 rfl (pc2 := 158) rfl ?_
      refine e_bipush (x := 20) dX6_drink_158 (by decide) (pc2 := 160) rfl ?_
      refine e_icmp_lt (tgt := 190) dX6_drink_160 (by decide) (pc2 := 163) rfl (fun c28 => ?_) (fun c28 => ?_)
      · have hf := if_t c28 hf
        refine ev_sub [0, 1, 2, 3, 4, 5, 8] rfl ?_
        exact t_X6_drink_j190 v1 v2 w0 v5 v6 v9 hv2 s _ hk23 hf
      · have hf := if_f c28 hf
        refine ev_sub [0, 1, 2, 3, 4, 5, 8] rfl ?_
        exact t_X6_drink_j163 v1 v2 w0 v5 v6 v9 hv2 s _ hk23 hf
def f_X6_drink_j134 (v1 : Int32) (v2 : Nat) (v5 : Int32) (v6 : Int32) (v7 : Int32) (v8 : Int32) (v9 : Int32) (k23 : Int32 → Int32 → Int32 → HS → Option HS) (s : HS) : Option HS :=
  f_X6_drink_j135 v1 v2 v5 v6 v7 v8 v9 0 k23 s
set_option maxRecDepth 20000 in
set_option maxHeartbeats 2000000 in
theorem t_X6_drink_j134 (v1 : Int32) (v2 : Nat) (v5 : Int32) (v6 : Int32) (v7 : Int32) (v8 : Int32) (v9 : Int32) (hv2 : okX0 v2 = true) (s : HS) {t : HS} (k23 : Int32 → Int32 → Int32 → HS → Option HS) (hk23 : ∀ (a3 : Int32) (a4 : Int32) (a5 : Int32) (s : HS), k23 a3 a4 a5 s = some t → Ev DDX6_drink miX6_drink NF none NF (hp t) 23 NF [(0, .ref 73), (1, .int v1), (2, .ref v2), (3, .int a3), (4, .int a4), (5, .int a5)] [] (hp s)) (hf : f_X6_drink_j134 v1 v2 v5 v6 v7 v8 v9 k23 s = some t) : Ev DDX6_drink miX6_drink NF none NF (hp t) 134 NF [(0, .ref 73), (1, .int v1), (2, .ref v2), (5, .int v5), (6, .int v6), (7, .int v7), (8, .int v8), (9, .int v9)] [] (hp s) := by
  refine e_iconst (x := 0) dX6_drink_134 (by decide) (pc2 := 135) rfl ?_
  exact t_X6_drink_j135 v1 v2 v5 v6 v7 v8 v9 0 hv2 s _ hk23 hf
def f_X6_drink_j89 (v1 : Int32) (v2 : Nat) (v3 : Int32) (v4 : Int32) (v5 : Int32) (v6 : Int32) (v7 : Int32) (w0 : Int32) (k23 : Int32 → Int32 → Int32 → HS → Option HS) (s : HS) : Option HS :=
  bnd (f_X6_coolsWithin v6 s) fun y12 => ltb (imax v3 (w0 + y12)) fun x13 => (if v4 = 0 then f_X6_drink_j134 v1 v2 v5 v6 v7 w0 x13 k23 s else gd (okX4 (s.2.2.2.2.1)) (gd (inb v1 6) ((if (s.1 75 v1.toNatClampNeg) < (x13 + (s.1 (s.2.2.2.2.1) 5)) then f_X6_drink_j134 v1 v2 v5 v6 v7 w0 x13 k23 s else f_X6_drink_j135 v1 v2 v5 v6 v7 w0 x13 1 k23 s))))
set_option maxRecDepth 20000 in
set_option maxHeartbeats 2000000 in
theorem t_X6_drink_j89 (v1 : Int32) (v2 : Nat) (v3 : Int32) (v4 : Int32) (v5 : Int32) (v6 : Int32) (v7 : Int32) (w0 : Int32) (hv2 : okX0 v2 = true) (s : HS) {t : HS} (k23 : Int32 → Int32 → Int32 → HS → Option HS) (hk23 : ∀ (a3 : Int32) (a4 : Int32) (a5 : Int32) (s : HS), k23 a3 a4 a5 s = some t → Ev DDX6_drink miX6_drink NF none NF (hp t) 23 NF [(0, .ref 73), (1, .int v1), (2, .ref v2), (3, .int a3), (4, .int a4), (5, .int a5)] [] (hp s)) (hf : f_X6_drink_j89 v1 v2 v3 v4 v5 v6 v7 w0 k23 s = some t) : Ev DDX6_drink miX6_drink NF none NF (hp t) 89 NF [(0, .ref 73), (1, .int v1), (2, .ref v2), (3, .int v3), (4, .int v4), (5, .int v5), (6, .int v6), (7, .int v7)] [.int w0] (hp s) := by
  refine e_istore dX6_drink_89 (by decide) rfl (ls' := [(0, .ref 73), (1, .int v1), (2, .ref v2), (3, .int v3), (4, .int v4), (5, .int v5), (6, .int v6), (7, .int v7), (8, .int w0)]) [1, 2, 3, 4, 5, 6, 7, 8, 0] rfl (pc2 := 91) rfl ?_
  refine e_iload_n dX6_drink_91 3 rfl rfl (pc2 := 92) rfl ?_
  refine e_iload dX6_drink_92 8 rfl (pc2 := 94) rfl ?_
  refine e_aload_n dX6_drink_94 0 rfl rfl (pc2 := 95) rfl ?_
  refine e_iload dX6_drink_95 6 rfl (pc2 := 97) rfl ?_
  obtain ⟨y12, hy12, hf⟩ := bnd_s hf
  refine e_callVs (t_X6_coolsWithin v6 s hy12) dX6_drink_97 cv_X6_181 rfl so_73 rc_6 (by decide) (by first | exact Nat.le_of_ble_eq_true rfl | simp [rva_cat, vc_i, vc_r, vc_l, vc_n]) nn0 rfl (pc2 := 100) rfl ?_
  refine e_iadd dX6_drink_100 (pc2 := 101) rfl ?_
  refine e_mmax dX6_drink_101 mm_X6_184 (by decide) nn0 (by first | exact Nat.le_of_ble_eq_true rfl | simp [rva_cat, vc_i, vc_r, vc_l, vc_n]) (pc2 := 104) rfl ?_
  obtain ⟨x13, ex13, hf⟩ := ltb_s hf
  refine e_istore dX6_drink_104 (by decide) ex13.symm (ls' := [(0, .ref 73), (1, .int v1), (2, .ref v2), (4, .int v4), (5, .int v5), (6, .int v6), (7, .int v7), (8, .int w0), (9, .int x13)]) [1, 2, 3, 5, 6, 7, 8, 9, 0] rfl (pc2 := 106) rfl ?_
  refine e_iload dX6_drink_106 3 rfl (pc2 := 108) rfl ?_
  refine e_if_eq (tgt := 134) dX6_drink_108 (by decide) (pc2 := 111) rfl (fun c14 => ?_) (fun c14 => ?_)
  · have hf := if_t c14 hf
    refine ev_sub [0, 1, 2, 4, 5, 6, 7, 8] rfl ?_
    exact t_X6_drink_j134 v1 v2 v5 v6 v7 w0 x13 hv2 s _ hk23 hf
  · have hf := if_f c14 hf
    refine e_iload dX6_drink_111 8 rfl (pc2 := 113) rfl ?_
    refine e_aload_n dX6_drink_113 0 rfl rfl (pc2 := 114) rfl ?_
    obtain ⟨g29, hf⟩ := gd_some hf
    refine e_getR (r := s.2.2.2.2.1) fl_X6_33 dX6_drink_114 so_73 rfl (okX4_ne g29) (pc2 := 117) rfl ?_
    refine e_getI fl_X6_187 dX6_drink_117 (okX4_o g29) (by decide) (pc2 := 120) rfl ?_
    refine e_iadd dX6_drink_120 (pc2 := 121) rfl ?_
    refine e_aload_n dX6_drink_121 0 rfl rfl (pc2 := 122) rfl ?_
    refine e_getR (r := 75) fl_X6_15 dX6_drink_122 so_73 (rs_73_9 s.2.2) (by decide) (pc2 := 125) rfl ?_
    refine e_iload_n dX6_drink_125 1 rfl rfl (pc2 := 126) rfl ?_
    obtain ⟨g30, hf⟩ := gd_some hf
    refine e_iald dX6_drink_126 sa_75 (inb_v g30) (pc2 := 127) rfl ?_
    refine e_icmp_gt (tgt := 134) dX6_drink_127 (by decide) (pc2 := 130) rfl (fun c31 => ?_) (fun c31 => ?_)
    · have hf := if_t c31 hf
      refine ev_sub [0, 1, 2, 4, 5, 6, 7, 8] rfl ?_
      exact t_X6_drink_j134 v1 v2 v5 v6 v7 w0 x13 hv2 s _ hk23 hf
    · have hf := if_f c31 hf
      refine e_iconst (x := 1) dX6_drink_130 (by decide) (pc2 := 131) rfl ?_
      refine e_goto (tgt := 135) dX6_drink_131 (by decide) ?_
      refine ev_sub [0, 1, 2, 4, 5, 6, 7, 8] rfl ?_
      exact t_X6_drink_j135 v1 v2 v5 v6 v7 w0 x13 1 hv2 s _ hk23 hf
def f_X6_drink_j66 (v1 : Int32) (v2 : Nat) (v3 : Int32) (v4 : Int32) (v5 : Int32) (v6 : Int32) (w0 : Int32) (k23 : Int32 → Int32 → Int32 → HS → Option HS) (s : HS) : Option HS :=
  (if w0 = 0 then gd (inb v1 6) (f_X6_drink_j89 v1 v2 v3 v4 v5 v6 w0 (s.1 77 v1.toNatClampNeg) k23 s) else f_X6_drink_j89 v1 v2 v3 v4 v5 v6 w0 ((-60) * (s.1 73 7)) k23 s)
set_option maxRecDepth 20000 in
set_option maxHeartbeats 2000000 in
theorem t_X6_drink_j66 (v1 : Int32) (v2 : Nat) (v3 : Int32) (v4 : Int32) (v5 : Int32) (v6 : Int32) (w0 : Int32) (hv2 : okX0 v2 = true) (s : HS) {t : HS} (k23 : Int32 → Int32 → Int32 → HS → Option HS) (hk23 : ∀ (a3 : Int32) (a4 : Int32) (a5 : Int32) (s : HS), k23 a3 a4 a5 s = some t → Ev DDX6_drink miX6_drink NF none NF (hp t) 23 NF [(0, .ref 73), (1, .int v1), (2, .ref v2), (3, .int a3), (4, .int a4), (5, .int a5)] [] (hp s)) (hf : f_X6_drink_j66 v1 v2 v3 v4 v5 v6 w0 k23 s = some t) : Ev DDX6_drink miX6_drink NF none NF (hp t) 66 NF [(0, .ref 73), (1, .int v1), (2, .ref v2), (3, .int v3), (4, .int v4), (5, .int v5), (6, .int v6)] [.int w0] (hp s) := by
  refine e_istore dX6_drink_66 (by decide) rfl (ls' := [(0, .ref 73), (1, .int v1), (2, .ref v2), (3, .int v3), (4, .int v4), (5, .int v5), (6, .int v6), (7, .int w0)]) [1, 2, 3, 4, 5, 6, 7, 0] rfl (pc2 := 68) rfl ?_
  refine e_iload dX6_drink_68 7 rfl (pc2 := 70) rfl ?_
  refine e_if_eq (tgt := 83) dX6_drink_70 (by decide) (pc2 := 73) rfl (fun c10 => ?_) (fun c10 => ?_)
  · have hf := if_t c10 hf
    refine e_aload_n dX6_drink_83 0 rfl rfl (pc2 := 84) rfl ?_
    refine e_getR (r := 77) fl_X6_21 dX6_drink_84 so_73 (rs_73_11 s.2.2) (by decide) (pc2 := 87) rfl ?_
    refine e_iload_n dX6_drink_87 1 rfl rfl (pc2 := 88) rfl ?_
    obtain ⟨g11, hf⟩ := gd_some hf
    refine e_iald dX6_drink_88 sa_77 (inb_v g11) (pc2 := 89) rfl ?_
    exact t_X6_drink_j89 v1 v2 v3 v4 v5 v6 w0 (s.1 77 v1.toNatClampNeg) hv2 s _ hk23 hf
  · have hf := if_f c10 hf
    refine e_bipush (x := (-60)) dX6_drink_73 (by decide) (pc2 := 75) rfl ?_
    refine e_aload_n dX6_drink_75 0 rfl rfl (pc2 := 76) rfl ?_
    refine e_getI fl_X6_57 dX6_drink_76 so_73 (by decide) (pc2 := 79) rfl ?_
    refine e_imul dX6_drink_79 (pc2 := 80) rfl ?_
    refine e_goto (tgt := 89) dX6_drink_80 (by decide) ?_
    exact t_X6_drink_j89 v1 v2 v3 v4 v5 v6 w0 ((-60) * (s.1 73 7)) hv2 s _ hk23 hf
def f_X6_drink_j65 (v1 : Int32) (v2 : Nat) (v3 : Int32) (v4 : Int32) (v5 : Int32) (v6 : Int32) (k23 : Int32 → Int32 → Int32 → HS → Option HS) (s : HS) : Option HS :=
  f_X6_drink_j66 v1 v2 v3 v4 v5 v6 0 k23 s
set_option maxRecDepth 20000 in
set_option maxHeartbeats 2000000 in
theorem t_X6_drink_j65 (v1 : Int32) (v2 : Nat) (v3 : Int32) (v4 : Int32) (v5 : Int32) (v6 : Int32) (hv2 : okX0 v2 = true) (s : HS) {t : HS} (k23 : Int32 → Int32 → Int32 → HS → Option HS) (hk23 : ∀ (a3 : Int32) (a4 : Int32) (a5 : Int32) (s : HS), k23 a3 a4 a5 s = some t → Ev DDX6_drink miX6_drink NF none NF (hp t) 23 NF [(0, .ref 73), (1, .int v1), (2, .ref v2), (3, .int a3), (4, .int a4), (5, .int a5)] [] (hp s)) (hf : f_X6_drink_j65 v1 v2 v3 v4 v5 v6 k23 s = some t) : Ev DDX6_drink miX6_drink NF none NF (hp t) 65 NF [(0, .ref 73), (1, .int v1), (2, .ref v2), (3, .int v3), (4, .int v4), (5, .int v5), (6, .int v6)] [] (hp s) := by
  refine e_iconst (x := 0) dX6_drink_65 (by decide) (pc2 := 66) rfl ?_
  exact t_X6_drink_j66 v1 v2 v3 v4 v5 v6 0 hv2 s _ hk23 hf
def f_X6_drink_l23b (v1 : Int32) (v2 : Nat) (v3 : Int32) (v4 : Int32) (v5 : Int32) (k23 : Int32 → Int32 → Int32 → HS → Option HS) (s : HS) : Option HS :=
  (if (s.1 v2 6) ≤ v5 then some s else gd (inb v5 3) (ltb (s.1 (Rf v2 5) v5.toNatClampNeg) fun x8 => (if x8 = (s.1 73 5) then (if (((s.1 73 16) >>> (v1 &&& 31)) &&& (1 : Int32)) = 0 then f_X6_drink_j65 v1 v2 v3 v4 v5 x8 k23 s else f_X6_drink_j66 v1 v2 v3 v4 v5 x8 1 k23 s) else f_X6_drink_j65 v1 v2 v3 v4 v5 x8 k23 s)))
set_option maxRecDepth 20000 in
set_option maxHeartbeats 2000000 in
theorem t_X6_drink_l23b (v1 : Int32) (v2 : Nat) (v3 : Int32) (v4 : Int32) (v5 : Int32) (hv2 : okX0 v2 = true) (s : HS) {t : HS} (k23 : Int32 → Int32 → Int32 → HS → Option HS) (hk23 : ∀ (a3 : Int32) (a4 : Int32) (a5 : Int32) (s : HS), k23 a3 a4 a5 s = some t → Ev DDX6_drink miX6_drink NF none NF (hp t) 23 NF [(0, .ref 73), (1, .int v1), (2, .ref v2), (3, .int a3), (4, .int a4), (5, .int a5)] [] (hp s)) (hf : f_X6_drink_l23b v1 v2 v3 v4 v5 k23 s = some t) : Ev DDX6_drink miX6_drink NF none NF (hp t) 23 NF [(0, .ref 73), (1, .int v1), (2, .ref v2), (3, .int v3), (4, .int v4), (5, .int v5)] [] (hp s) := by
  refine e_iload dX6_drink_23 5 rfl (pc2 := 25) rfl ?_
  refine e_aload_n dX6_drink_25 2 rfl rfl (pc2 := 26) rfl ?_
  refine e_getI fl_X6_141 dX6_drink_26 (okX0_o hv2) (by decide) (pc2 := 29) rfl ?_
  refine e_icmp_ge (tgt := 212) dX6_drink_29 (by decide) (pc2 := 32) rfl (fun c6 => ?_) (fun c6 => ?_)
  · have hf := if_t c6 hf
    cases hf
    exact e_vret rfl dX6_drink_212
  · have hf := if_f c6 hf
    refine e_aload_n dX6_drink_32 2 rfl rfl (pc2 := 33) rfl ?_
    refine e_getR (r := Rf v2 5) fl_X6_178 dX6_drink_33 (okX0_o hv2) (okX0_R hv2) (isA_ne (okX0_wants hv2)) (pc2 := 36) rfl ?_
    refine e_iload dX6_drink_36 5 rfl (pc2 := 38) rfl ?_
    obtain ⟨g7, hf⟩ := gd_some hf
    refine e_iald dX6_drink_38 (okX0_wants hv2) (inb_v g7) (pc2 := 39) rfl ?_
    obtain ⟨x8, ex8, hf⟩ := ltb_s hf
    refine e_istore dX6_drink_39 (by decide) ex8.symm (ls' := [(0, .ref 73), (1, .int v1), (2, .ref v2), (3, .int v3), (4, .int v4), (5, .int v5), (6, .int x8)]) [1, 2, 3, 4, 5, 6, 0] rfl (pc2 := 41) rfl ?_
    refine e_iload dX6_drink_41 6 rfl (pc2 := 43) rfl ?_
    refine e_aload_n dX6_drink_43 0 rfl rfl (pc2 := 44) rfl ?_
    refine e_getI fl_X6_51 dX6_drink_44 so_73 (by decide) (pc2 := 47) rfl ?_
    refine e_icmp_ne (tgt := 65) dX6_drink_47 (by decide) (pc2 := 50) rfl (fun c9 => ?_) (fun c9 => ?_)
    · have hf := if_f c9 hf
      exact t_X6_drink_j65 v1 v2 v3 v4 v5 x8 hv2 s _ hk23 hf
    · have hf := if_t c9 hf
      refine e_aload_n dX6_drink_50 0 rfl rfl (pc2 := 51) rfl ?_
      refine e_getI fl_X6_94 dX6_drink_51 so_73 (by decide) (pc2 := 54) rfl ?_
      refine e_iload_n dX6_drink_54 1 rfl rfl (pc2 := 55) rfl ?_
      refine e_ishr dX6_drink_55 (pc2 := 56) rfl ?_
      refine e_iconst (x := 1) dX6_drink_56 (by decide) (pc2 := 57) rfl ?_
      refine e_iand dX6_drink_57 (pc2 := 58) rfl ?_
      refine e_if_eq (tgt := 65) dX6_drink_58 (by decide) (pc2 := 61) rfl (fun c32 => ?_) (fun c32 => ?_)
      · have hf := if_t c32 hf
        exact t_X6_drink_j65 v1 v2 v3 v4 v5 x8 hv2 s _ hk23 hf
      · have hf := if_f c32 hf
        refine e_iconst (x := 1) dX6_drink_61 (by decide) (pc2 := 62) rfl ?_
        refine e_goto (tgt := 66) dX6_drink_62 (by decide) ?_
        exact t_X6_drink_j66 v1 v2 v3 v4 v5 x8 1 hv2 s _ hk23 hf
def f_X6_drink_l23 (v1 : Int32) (v2 : Nat) : Nat → Int32 → Int32 → Int32 → HS → Option HS
  | 0, _, _, _, _ => none
  | n + 1, v3, v4, v5, s => f_X6_drink_l23b v1 v2 v3 v4 v5 (f_X6_drink_l23 v1 v2 n)  s
set_option maxRecDepth 20000 in
set_option maxHeartbeats 2000000 in
theorem t_X6_drink_l23 (v1 : Int32) (v2 : Nat) (hv2 : okX0 v2 = true) {t : HS}  : ∀ (n : Nat) (v3 : Int32) (v4 : Int32) (v5 : Int32) (s : HS), f_X6_drink_l23 v1 v2 n v3 v4 v5 s = some t → Ev DDX6_drink miX6_drink NF none NF (hp t) 23 NF [(0, .ref 73), (1, .int v1), (2, .ref v2), (3, .int v3), (4, .int v4), (5, .int v5)] [] (hp s) := by
  intro n
  induction n with
  | zero =>
    intro v3 v4 v5 s hf
    have hf : none = some t := hf
    cases hf
  | succ n ih =>
    intro v3 v4 v5 s hf
    exact t_X6_drink_l23b v1 v2 v3 v4 v5 hv2 s _ ih  hf
def f_X6_drink (v1 : Int32) (s : HS) : Option HS :=
  gd (okX4 (s.2.2.2.2.1)) (gd (inb v1 6) (ltb (Rf (Rf (s.2.2.2.2.1) 15) v1.toNatClampNeg) fun o3 => gd (inb v1 6) (ltb (s.1 77 v1.toNatClampNeg) fun x5 => f_X6_drink_l23 v1 o3 FU x5 1 0 s)))
set_option maxRecDepth 20000 in
set_option maxHeartbeats 2000000 in
theorem t_X6_drink (v1 : Int32) (s : HS) {t : HS} (hf : f_X6_drink v1 s = some t) : Mt DDX6_drink miX6_drink [.ref 73, .int v1] NF (hp s) none NF (hp t) := by
  refine Mt.of (by decide +kernel) (Nat.le_refl _) (Nat.le_of_ble_eq_true rfl) ?_
  show Ev DDX6_drink miX6_drink NF none NF (hp t) 0 NF [(0, .ref 73), (1, .int v1)] [] (hp s)
  unfold f_X6_drink at hf
  refine e_aload_n dX6_drink_0 0 rfl rfl (pc2 := 1) rfl ?_
  obtain ⟨g1, hf⟩ := gd_some hf
  refine e_getR (r := s.2.2.2.2.1) fl_X6_33 dX6_drink_1 so_73 rfl (okX4_ne g1) (pc2 := 4) rfl ?_
  refine e_getR (r := Rf (s.2.2.2.2.1) 15) fl_X6_104 dX6_drink_4 (okX4_o g1) (okX4_R g1) (isA_ne (okX4_buyer g1)) (pc2 := 7) rfl ?_
  refine e_iload_n dX6_drink_7 1 rfl rfl (pc2 := 8) rfl ?_
  obtain ⟨g2, hf⟩ := gd_some hf
  refine e_aald (r := Rf (Rf (s.2.2.2.2.1) 15) v1.toNatClampNeg) dX6_drink_8 (okX4_buyer g1) (by decide) (inb_v g2) (Rs_na (q := s.2.2) (okX4_buyer g1) (by decide)) (okX0_ne (okX4_buyer_el g1 (inb_v g2))) (pc2 := 9) rfl ?_
  obtain ⟨o3, eo3, hf⟩ := ltb_s hf
  have ho3 : okX0 o3 = true := by rw [eo3]; exact (okX4_buyer_el g1 (inb_v g2))
  refine e_astore_n dX6_drink_9 rfl (by decide) eo3.symm (ls' := [(0, .ref 73), (1, .int v1), (2, .ref o3)]) [1, 2, 0] rfl (pc2 := 10) rfl ?_
  refine e_aload_n dX6_drink_10 0 rfl rfl (pc2 := 11) rfl ?_
  refine e_getR (r := 77) fl_X6_21 dX6_drink_11 so_73 (rs_73_11 s.2.2) (by decide) (pc2 := 14) rfl ?_
  refine e_iload_n dX6_drink_14 1 rfl rfl (pc2 := 15) rfl ?_
  obtain ⟨g4, hf⟩ := gd_some hf
  refine e_iald dX6_drink_15 sa_77 (inb_v g4) (pc2 := 16) rfl ?_
  obtain ⟨x5, ex5, hf⟩ := ltb_s hf
  refine e_istore_n dX6_drink_16 rfl (by decide) ex5.symm (ls' := [(0, .ref 73), (1, .int v1), (2, .ref o3), (3, .int x5)]) [1, 2, 3, 0] rfl (pc2 := 17) rfl ?_
  refine e_iconst (x := 1) dX6_drink_17 (by decide) (pc2 := 18) rfl ?_
  refine e_istore dX6_drink_18 (by decide) rfl (ls' := [(0, .ref 73), (1, .int v1), (2, .ref o3), (3, .int x5), (4, .int 1)]) [1, 2, 3, 4, 0] rfl (pc2 := 20) rfl ?_
  refine e_iconst (x := 0) dX6_drink_20 (by decide) (pc2 := 21) rfl ?_
  refine e_istore dX6_drink_21 (by decide) rfl (ls' := [(0, .ref 73), (1, .int v1), (2, .ref o3), (3, .int x5), (4, .int 1), (5, .int 0)]) [1, 2, 3, 4, 5, 0] rfl (pc2 := 23) rfl ?_
  refine t_X6_drink_l23 v1 o3 ho3 FU x5 1 0 s hf
abbrev DDX6_endFor : Nat := 3
def f_X6_endFor_j60 (v1 : Int32) (v2 : Int32) (s : HS) : Option HS :=
  gd (okX4 (s.2.2.2.2.1)) (gd (okX7 (s.2.2.2.2.2.1)) (bnd (f_X4_wayOf (s.2.2.2.2.1) v1 (s.1 (s.2.2.2.2.2.1) 2) s) fun y9 => gd (okX4 (s.2.2.2.2.1)) ((if (v2 + y9) ≤ (s.1 (s.2.2.2.2.1) 0) then some s else ltb (sI s 73 15 ((s.1 73 15) ||| ((1 : Int32) <<< (v1 &&& 31)))) fun s12 => some s12))))
set_option maxRecDepth 20000 in
set_option maxHeartbeats 2000000 in
theorem t_X6_endFor_j60 (v1 : Int32) (v2 : Int32) (s : HS) {t : HS}  (hf : f_X6_endFor_j60 v1 v2 s = some t) : Ev DDX6_endFor miX6_endFor NF none NF (hp t) 60 NF [(0, .ref 73), (1, .int v1), (2, .int v2)] [] (hp s) := by
  refine e_iload_n dX6_endFor_60 2 rfl rfl (pc2 := 61) rfl ?_
  refine e_aload_n dX6_endFor_61 0 rfl rfl (pc2 := 62) rfl ?_
  obtain ⟨g7, hf⟩ := gd_some hf
  refine e_getR (r := s.2.2.2.2.1) fl_X6_33 dX6_endFor_62 so_73 rfl (okX4_ne g7) (pc2 := 65) rfl ?_
  refine e_iload_n dX6_endFor_65 1 rfl rfl (pc2 := 66) rfl ?_
  refine e_aload_n dX6_endFor_66 0 rfl rfl (pc2 := 67) rfl ?_
  obtain ⟨g8, hf⟩ := gd_some hf
  refine e_getR (r := s.2.2.2.2.2.1) fl_X6_37 dX6_endFor_67 so_73 rfl (okX7_ne g8) (pc2 := 70) rfl ?_
  refine e_getI fl_X6_97 dX6_endFor_70 (okX7_o g8) (by decide) (pc2 := 73) rfl ?_
  obtain ⟨y9, hy9, hf⟩ := bnd_s hf
  refine e_callVs (t_X4_wayOf (s.2.2.2.2.1) g7 v1 (s.1 (s.2.2.2.2.2.1) 2) s hy9) dX6_endFor_73 cv_X6_100 rfl (okX4_o g7) rc_4 (by decide) (by first | exact Nat.le_of_ble_eq_true rfl | simp [rva_cat, vc_i, vc_r, vc_l, vc_n]) nn0 rfl (pc2 := 76) rfl ?_
  refine e_iadd dX6_endFor_76 (pc2 := 77) rfl ?_
  refine e_aload_n dX6_endFor_77 0 rfl rfl (pc2 := 78) rfl ?_
  obtain ⟨g10, hf⟩ := gd_some hf
  refine e_getR (r := s.2.2.2.2.1) fl_X6_33 dX6_endFor_78 so_73 rfl (okX4_ne g10) (pc2 := 81) rfl ?_
  refine e_getI fl_X6_63 dX6_endFor_81 (okX4_o g10) (by decide) (pc2 := 84) rfl ?_
  refine e_icmp_le (tgt := 99) dX6_endFor_84 (by decide) (pc2 := 87) rfl (fun c11 => ?_) (fun c11 => ?_)
  · have hf := if_t c11 hf
    cases hf
    exact e_vret rfl dX6_endFor_99
  · have hf := if_f c11 hf
    refine e_aload_n dX6_endFor_87 0 rfl rfl (pc2 := 88) rfl ?_
    refine e_dup dX6_endFor_88 rfl (pc2 := 89) rfl ?_
    refine e_getI fl_X6_91 dX6_endFor_89 so_73 (by decide) (pc2 := 92) rfl ?_
    refine e_iconst (x := 1) dX6_endFor_92 (by decide) (pc2 := 93) rfl ?_
    refine e_iload_n dX6_endFor_93 1 rfl rfl (pc2 := 94) rfl ?_
    refine e_ishl dX6_endFor_94 (pc2 := 95) rfl ?_
    refine e_ior dX6_endFor_95 (pc2 := 96) rfl ?_
    obtain ⟨s12, es12, hf⟩ := ltb_s hf
    refine e_putI fl_X6_91 dX6_endFor_96 so_73 fn_6_15 (h2 := hp s12) (by rw [es12]; rfl) (pc2 := 99) rfl ?_
    cases hf
    exact e_vret rfl dX6_endFor_99
def f_X6_endFor (v1 : Int32) (s : HS) : Option HS :=
  gd (inb v1 6) (ltb (s.1 75 v1.toNatClampNeg) fun x2 => gd (inb v1 6) ((if (s.1 77 v1.toNatClampNeg) ≤ x2 then gd (inb v1 6) ((if (s.1 77 v1.toNatClampNeg) = (-1) then f_X6_endFor_j60 v1 x2 s else bnd (f_X6_drink v1 s) fun s14 => f_X6_endFor_j60 v1 x2 s14)) else gd (inb v1 6) (ltb (s.1 77 v1.toNatClampNeg) fun x16 => gd (okX4 (s.2.2.2.2.1)) (gd (inb v1 6) (gd (inb v1 6) (ltb (sI s 79 (v1.toNatClampNeg) (s.1 (Rf (Rf (s.2.2.2.2.1) 15) v1.toNatClampNeg) 7)) fun s19 => f_X6_endFor_j60 v1 x16 s19)))))))
set_option maxRecDepth 20000 in
set_option maxHeartbeats 2000000 in
theorem t_X6_endFor (v1 : Int32) (s : HS) {t : HS} (hf : f_X6_endFor v1 s = some t) : Mt DDX6_endFor miX6_endFor [.ref 73, .int v1] NF (hp s) none NF (hp t) := by
  refine Mt.of (by decide +kernel) (Nat.le_refl _) (Nat.le_of_ble_eq_true rfl) ?_
  show Ev DDX6_endFor miX6_endFor NF none NF (hp t) 0 NF [(0, .ref 73), (1, .int v1)] [] (hp s)
  unfold f_X6_endFor at hf
  refine e_aload_n dX6_endFor_0 0 rfl rfl (pc2 := 1) rfl ?_
  refine e_getR (r := 75) fl_X6_15 dX6_endFor_1 so_73 (rs_73_9 s.2.2) (by decide) (pc2 := 4) rfl ?_
  refine e_iload_n dX6_endFor_4 1 rfl rfl (pc2 := 5) rfl ?_
  obtain ⟨g1, hf⟩ := gd_some hf
  refine e_iald dX6_endFor_5 sa_75 (inb_v g1) (pc2 := 6) rfl ?_
  obtain ⟨x2, ex2, hf⟩ := ltb_s hf
  refine e_istore_n dX6_endFor_6 rfl (by decide) ex2.symm (ls' := [(0, .ref 73), (1, .int v1), (2, .int x2)]) [1, 2, 0] rfl (pc2 := 7) rfl ?_
  refine e_aload_n dX6_endFor_7 0 rfl rfl (pc2 := 8) rfl ?_
  refine e_getR (r := 77) fl_X6_21 dX6_endFor_8 so_73 (rs_73_11 s.2.2) (by decide) (pc2 := 11) rfl ?_
  refine e_iload_n dX6_endFor_11 1 rfl rfl (pc2 := 12) rfl ?_
  obtain ⟨g3, hf⟩ := gd_some hf
  refine e_iald dX6_endFor_12 sa_77 (inb_v g3) (pc2 := 13) rfl ?_
  refine e_iload_n dX6_endFor_13 2 rfl rfl (pc2 := 14) rfl ?_
  refine e_icmp_le (tgt := 45) dX6_endFor_14 (by decide) (pc2 := 17) rfl (fun c4 => ?_) (fun c4 => ?_)
  · have hf := if_t c4 hf
    refine e_aload_n dX6_endFor_45 0 rfl rfl (pc2 := 46) rfl ?_
    refine e_getR (r := 77) fl_X6_21 dX6_endFor_46 so_73 (rs_73_11 s.2.2) (by decide) (pc2 := 49) rfl ?_
    refine e_iload_n dX6_endFor_49 1 rfl rfl (pc2 := 50) rfl ?_
    obtain ⟨g5, hf⟩ := gd_some hf
    refine e_iald dX6_endFor_50 sa_77 (inb_v g5) (pc2 := 51) rfl ?_
    refine e_iconst (x := (-1)) dX6_endFor_51 (by decide) (pc2 := 52) rfl ?_
    refine e_icmp_eq (tgt := 60) dX6_endFor_52 (by decide) (pc2 := 55) rfl (fun c6 => ?_) (fun c6 => ?_)
    · have hf := if_t c6 hf
      exact t_X6_endFor_j60 v1 x2 s hf
    · have hf := if_f c6 hf
      refine e_aload_n dX6_endFor_55 0 rfl rfl (pc2 := 56) rfl ?_
      refine e_iload_n dX6_endFor_56 1 rfl rfl (pc2 := 57) rfl ?_
      obtain ⟨s14, hy13, hf⟩ := bnd_s hf
      refine e_callVn (t_X6_drink v1 s hy13) dX6_endFor_57 cv_X6_175 rfl so_73 rc_6 (by decide) (by first | exact Nat.le_of_ble_eq_true rfl | simp [rva_cat, vc_i, vc_r, vc_l, vc_n]) nn0 rfl (pc2 := 60) rfl ?_
      exact t_X6_endFor_j60 v1 x2 s14 hf
  · have hf := if_f c4 hf
    refine e_aload_n dX6_endFor_17 0 rfl rfl (pc2 := 18) rfl ?_
    refine e_getR (r := 77) fl_X6_21 dX6_endFor_18 so_73 (rs_73_11 s.2.2) (by decide) (pc2 := 21) rfl ?_
    refine e_iload_n dX6_endFor_21 1 rfl rfl (pc2 := 22) rfl ?_
    obtain ⟨g15, hf⟩ := gd_some hf
    refine e_iald dX6_endFor_22 sa_77 (inb_v g15) (pc2 := 23) rfl ?_
    obtain ⟨x16, ex16, hf⟩ := ltb_s hf
    refine e_istore_n dX6_endFor_23 rfl (by decide) ex16.symm (ls' := [(0, .ref 73), (1, .int v1), (2, .int x16)]) [1, 2, 0] rfl (pc2 := 24) rfl ?_
    refine e_aload_n dX6_endFor_24 0 rfl rfl (pc2 := 25) rfl ?_
    refine e_getR (r := 79) fl_X6_27 dX6_endFor_25 so_73 (rs_73_13 s.2.2) (by decide) (pc2 := 28) rfl ?_
    refine e_iload_n dX6_endFor_28 1 rfl rfl (pc2 := 29) rfl ?_
    refine e_aload_n dX6_endFor_29 0 rfl rfl (pc2 := 30) rfl ?_
    obtain ⟨g17, hf⟩ := gd_some hf
    refine e_getR (r := s.2.2.2.2.1) fl_X6_33 dX6_endFor_30 so_73 rfl (okX4_ne g17) (pc2 := 33) rfl ?_
    refine e_getR (r := Rf (s.2.2.2.2.1) 15) fl_X6_104 dX6_endFor_33 (okX4_o g17) (okX4_R g17) (isA_ne (okX4_buyer g17)) (pc2 := 36) rfl ?_
    refine e_iload_n dX6_endFor_36 1 rfl rfl (pc2 := 37) rfl ?_
    obtain ⟨g18, hf⟩ := gd_some hf
    refine e_aald (r := Rf (Rf (s.2.2.2.2.1) 15) v1.toNatClampNeg) dX6_endFor_37 (okX4_buyer g17) (by decide) (inb_v g18) (Rs_na (q := s.2.2) (okX4_buyer g17) (by decide)) (okX0_ne (okX4_buyer_el g17 (inb_v g18))) (pc2 := 38) rfl ?_
    refine e_getI fl_X6_163 dX6_endFor_38 (okX0_o (okX4_buyer_el g17 (inb_v g18))) (by decide) (pc2 := 41) rfl ?_
    obtain ⟨g20, hf⟩ := gd_some hf
    obtain ⟨s19, es19, hf⟩ := ltb_s hf
    refine e_iast dX6_endFor_41 sa_79 (inb_v g20) (h2 := hp s19) (by rw [es19]; rfl) (pc2 := 42) rfl ?_
    refine e_goto (tgt := 60) dX6_endFor_42 (by decide) ?_
    exact t_X6_endFor_j60 v1 x16 s19 hf
abbrev DDX6_play : Nat := 5
def f_X6_play_l8b (v1 : Int32) (v2 : Int32) (k8 : Int32 → Int32 → HS → Option HS) (k43 : HS → Option HS) (s : HS) : Option HS :=
  (if 900 < v2 then k43 s else gd (okX4 (s.2.2.2.2.1)) ((if (s.1 (s.2.2.2.2.1) 0) ≤ v1 then k43 s else bnd (f_X6_serveWaiting v1 s) fun s7 => bnd (f_X6_nextSecond v1 s7) fun y8 => ltb (v2 + 1) fun x9 => k8 y8 x9 s7)))
set_option maxRecDepth 20000 in
set_option maxHeartbeats 2000000 in
theorem t_X6_play_l8b (v1 : Int32) (v2 : Int32) (s : HS) {t : HS} (k8 : Int32 → Int32 → HS → Option HS) (hk8 : ∀ (a1 : Int32) (a2 : Int32) (s : HS), k8 a1 a2 s = some t → Ev DDX6_play miX6_play NF none NF (hp t) 8 NF [(0, .ref 73), (1, .int a1), (2, .int a2)] [] (hp s)) (k43 : HS → Option HS) (hk43 : ∀ (s : HS), k43 s = some t → Ev DDX6_play miX6_play NF none NF (hp t) 43 NF [(0, .ref 73)] [] (hp s)) (hf : f_X6_play_l8b v1 v2 k8 k43 s = some t) : Ev DDX6_play miX6_play NF none NF (hp t) 8 NF [(0, .ref 73), (1, .int v1), (2, .int v2)] [] (hp s) := by
  refine e_iload_n dX6_play_8 2 rfl rfl (pc2 := 9) rfl ?_
  refine e_sipush (x := 900) dX6_play_9 (by decide) (pc2 := 12) rfl ?_
  refine e_icmp_gt (tgt := 43) dX6_play_12 (by decide) (pc2 := 15) rfl (fun c3 => ?_) (fun c3 => ?_)
  · have hf := if_t c3 hf
    refine ev_sub [0] rfl ?_
    exact hk43 s hf
  · have hf := if_f c3 hf
    refine e_iload_n dX6_play_15 1 rfl rfl (pc2 := 16) rfl ?_
    refine e_aload_n dX6_play_16 0 rfl rfl (pc2 := 17) rfl ?_
    obtain ⟨g4, hf⟩ := gd_some hf
    refine e_getR (r := s.2.2.2.2.1) fl_X6_33 dX6_play_17 so_73 rfl (okX4_ne g4) (pc2 := 20) rfl ?_
    refine e_getI fl_X6_63 dX6_play_20 (okX4_o g4) (by decide) (pc2 := 23) rfl ?_
    refine e_icmp_ge (tgt := 43) dX6_play_23 (by decide) (pc2 := 26) rfl (fun c5 => ?_) (fun c5 => ?_)
    · have hf := if_t c5 hf
      refine ev_sub [0] rfl ?_
      exact hk43 s hf
    · have hf := if_f c5 hf
      refine e_aload_n dX6_play_26 0 rfl rfl (pc2 := 27) rfl ?_
      refine e_iload_n dX6_play_27 1 rfl rfl (pc2 := 28) rfl ?_
      obtain ⟨s7, hy6, hf⟩ := bnd_s hf
      refine e_callVn (t_X6_serveWaiting v1 s hy6) dX6_play_28 cv_X6_68 rfl so_73 rc_6 (by decide) (by first | exact Nat.le_of_ble_eq_true rfl | simp [rva_cat, vc_i, vc_r, vc_l, vc_n]) nn0 rfl (pc2 := 31) rfl ?_
      refine e_aload_n dX6_play_31 0 rfl rfl (pc2 := 32) rfl ?_
      refine e_iload_n dX6_play_32 1 rfl rfl (pc2 := 33) rfl ?_
      obtain ⟨y8, hy8, hf⟩ := bnd_s hf
      refine e_callVs (t_X6_nextSecond v1 s7 hy8) dX6_play_33 cv_X6_72 rfl so_73 rc_6 (by decide) (by first | exact Nat.le_of_ble_eq_true rfl | simp [rva_cat, vc_i, vc_r, vc_l, vc_n]) nn0 rfl (pc2 := 36) rfl ?_
      refine e_istore_n dX6_play_36 rfl (by decide) rfl (ls' := [(0, .ref 73), (1, .int y8), (2, .int v2)]) [1, 0, 2] rfl (pc2 := 37) rfl ?_
      obtain ⟨x9, ex9, hf⟩ := ltb_s hf
      refine e_iinc dX6_play_37 2 rfl (c9 := 1) (by decide) ex9.symm (by decide) (ls' := [(0, .ref 73), (1, .int y8), (2, .int x9)]) [1, 2, 0] rfl (pc2 := 40) rfl ?_
      refine e_goto (tgt := 8) dX6_play_40 (by decide) ?_
      exact hk8 y8 x9 s7 hf
def f_X6_play_l8 (k43 : HS → Option HS) : Nat → Int32 → Int32 → HS → Option HS
  | 0, _, _, _ => none
  | n + 1, v1, v2, s => f_X6_play_l8b v1 v2 (f_X6_play_l8 k43 n) k43 s
set_option maxRecDepth 20000 in
set_option maxHeartbeats 2000000 in
theorem t_X6_play_l8  {t : HS} (k43 : HS → Option HS) (hk43 : ∀ (s : HS), k43 s = some t → Ev DDX6_play miX6_play NF none NF (hp t) 43 NF [(0, .ref 73)] [] (hp s)) : ∀ (n : Nat) (v1 : Int32) (v2 : Int32) (s : HS), f_X6_play_l8 k43 n v1 v2 s = some t → Ev DDX6_play miX6_play NF none NF (hp t) 8 NF [(0, .ref 73), (1, .int v1), (2, .int v2)] [] (hp s) := by
  intro n
  induction n with
  | zero =>
    intro v1 v2 s hf
    have hf : none = some t := hf
    cases hf
  | succ n ih =>
    intro v1 v2 s hf
    exact t_X6_play_l8b v1 v2  s _ ih _ hk43 hf
def f_X6_play_l45b (v2 : Int32) (k45 : Int32 → HS → Option HS) (s : HS) : Option HS :=
  gd (okX4 (s.2.2.2.2.1)) ((if (s.1 (s.2.2.2.2.1) 14) ≤ v2 then some s else bnd (f_X6_isOut v2 s) fun y13 => (if y13 = 0 then ltb (v2 + 1) fun x15 => k45 x15 s else bnd (f_X6_endFor v2 s) fun s17 => ltb (v2 + 1) fun x18 => k45 x18 s17)))
set_option maxRecDepth 20000 in
set_option maxHeartbeats 2000000 in
theorem t_X6_play_l45b (v2 : Int32) (s : HS) {t : HS} (k45 : Int32 → HS → Option HS) (hk45 : ∀ (a2 : Int32) (s : HS), k45 a2 s = some t → Ev DDX6_play miX6_play NF none NF (hp t) 45 NF [(0, .ref 73), (2, .int a2)] [] (hp s)) (hf : f_X6_play_l45b v2 k45 s = some t) : Ev DDX6_play miX6_play NF none NF (hp t) 45 NF [(0, .ref 73), (2, .int v2)] [] (hp s) := by
  refine e_iload_n dX6_play_45 1 rfl rfl (pc2 := 46) rfl ?_
  refine e_aload_n dX6_play_46 0 rfl rfl (pc2 := 47) rfl ?_
  obtain ⟨g11, hf⟩ := gd_some hf
  refine e_getR (r := s.2.2.2.2.1) fl_X6_33 dX6_play_47 so_73 rfl (okX4_ne g11) (pc2 := 50) rfl ?_
  refine e_getI fl_X6_76 dX6_play_50 (okX4_o g11) (by decide) (pc2 := 53) rfl ?_
  refine e_icmp_ge (tgt := 75) dX6_play_53 (by decide) (pc2 := 56) rfl (fun c12 => ?_) (fun c12 => ?_)
  · have hf := if_t c12 hf
    cases hf
    exact e_vret rfl dX6_play_75
  · have hf := if_f c12 hf
    refine e_aload_n dX6_play_56 0 rfl rfl (pc2 := 57) rfl ?_
    refine e_iload_n dX6_play_57 1 rfl rfl (pc2 := 58) rfl ?_
    obtain ⟨y13, hy13, hf⟩ := bnd_s hf
    refine e_callVs (t_X6_isOut v2 s hy13) dX6_play_58 cv_X6_79 rfl so_73 rc_6 (by decide) (by first | exact Nat.le_of_ble_eq_true rfl | simp [rva_cat, vc_i, vc_r, vc_l, vc_n]) nn0 rfl (pc2 := 61) rfl ?_
    refine e_if_eq (tgt := 69) dX6_play_61 (by decide) (pc2 := 64) rfl (fun c14 => ?_) (fun c14 => ?_)
    · have hf := if_t c14 hf
      obtain ⟨x15, ex15, hf⟩ := ltb_s hf
      refine e_iinc dX6_play_69 1 rfl (c9 := 1) (by decide) ex15.symm (by decide) (ls' := [(0, .ref 73), (2, .int x15)]) [1, 0] rfl (pc2 := 72) rfl ?_
      refine e_goto (tgt := 45) dX6_play_72 (by decide) ?_
      exact hk45 x15 s hf
    · have hf := if_f c14 hf
      refine e_aload_n dX6_play_64 0 rfl rfl (pc2 := 65) rfl ?_
      refine e_iload_n dX6_play_65 1 rfl rfl (pc2 := 66) rfl ?_
      obtain ⟨s17, hy16, hf⟩ := bnd_s hf
      refine e_callVn (t_X6_endFor v2 s hy16) dX6_play_66 cv_X6_83 rfl so_73 rc_6 (by decide) (by first | exact Nat.le_of_ble_eq_true rfl | simp [rva_cat, vc_i, vc_r, vc_l, vc_n]) nn0 rfl (pc2 := 69) rfl ?_
      obtain ⟨x18, ex18, hf⟩ := ltb_s hf
      refine e_iinc dX6_play_69 1 rfl (c9 := 1) (by decide) ex18.symm (by decide) (ls' := [(0, .ref 73), (2, .int x18)]) [1, 0] rfl (pc2 := 72) rfl ?_
      refine e_goto (tgt := 45) dX6_play_72 (by decide) ?_
      exact hk45 x18 s17 hf
def f_X6_play_l45  : Nat → Int32 → HS → Option HS
  | 0, _, _ => none
  | n + 1, v2, s => f_X6_play_l45b v2 (f_X6_play_l45  n)  s
set_option maxRecDepth 20000 in
set_option maxHeartbeats 2000000 in
theorem t_X6_play_l45  {t : HS}  : ∀ (n : Nat) (v2 : Int32) (s : HS), f_X6_play_l45  n v2 s = some t → Ev DDX6_play miX6_play NF none NF (hp t) 45 NF [(0, .ref 73), (2, .int v2)] [] (hp s) := by
  intro n
  induction n with
  | zero =>
    intro v2 s hf
    have hf : none = some t := hf
    cases hf
  | succ n ih =>
    intro v2 s hf
    exact t_X6_play_l45b v2  s _ ih  hf
def f_X6_play_j43  (s : HS) : Option HS :=
  f_X6_play_l45 FU 0 s
set_option maxRecDepth 20000 in
set_option maxHeartbeats 2000000 in
theorem t_X6_play_j43  (s : HS) {t : HS}  (hf : f_X6_play_j43 s = some t) : Ev DDX6_play miX6_play NF none NF (hp t) 43 NF [(0, .ref 73)] [] (hp s) := by
  refine e_iconst (x := 0) dX6_play_43 (by decide) (pc2 := 44) rfl ?_
  refine e_istore_n dX6_play_44 rfl (by decide) rfl (ls' := [(0, .ref 73), (2, .int 0)]) [1, 0] rfl (pc2 := 45) rfl ?_
  refine t_X6_play_l45 FU 0 s hf
def f_X6_play  (s : HS) : Option HS :=
  bnd (f_X6_makeReady s) fun s2 => f_X6_play_l8 (fun s10 => f_X6_play_j43 s10) FU 0 0 s2
set_option maxRecDepth 20000 in
set_option maxHeartbeats 2000000 in
theorem t_X6_play  (s : HS) {t : HS} (hf : f_X6_play s = some t) : Mt DDX6_play miX6_play [.ref 73] NF (hp s) none NF (hp t) := by
  refine Mt.of (by decide +kernel) (Nat.le_refl _) (Nat.le_of_ble_eq_true rfl) ?_
  show Ev DDX6_play miX6_play NF none NF (hp t) 0 NF [(0, .ref 73)] [] (hp s)
  unfold f_X6_play at hf
  refine e_aload_n dX6_play_0 0 rfl rfl (pc2 := 1) rfl ?_
  obtain ⟨s2, hy1, hf⟩ := bnd_s hf
  refine e_callVn (t_X6_makeReady  s hy1) dX6_play_1 cv_X6_60 rfl so_73 rc_6 (by decide) (by first | exact Nat.le_of_ble_eq_true rfl | simp [rva_cat, vc_i, vc_r, vc_l, vc_n]) nn0 rfl (pc2 := 4) rfl ?_
  refine e_iconst (x := 0) dX6_play_4 (by decide) (pc2 := 5) rfl ?_
  refine e_istore_n dX6_play_5 rfl (by decide) rfl (ls' := [(0, .ref 73), (1, .int 0)]) [1, 0] rfl (pc2 := 6) rfl ?_
  refine e_iconst (x := 0) dX6_play_6 (by decide) (pc2 := 7) rfl ?_
  refine e_istore_n dX6_play_7 rfl (by decide) rfl (ls' := [(0, .ref 73), (1, .int 0), (2, .int 0)]) [1, 2, 0] rfl (pc2 := 8) rfl ?_
  refine t_X6_play_l8 _ ?_ FU 0 0 s2 hf
  · intro s10 hf
    exact t_X6_play_j43 s10 hf
abbrev DDX6_paid : Nat := 2
def f_X6_paid_l4b (v1 : Int32) (v2 : Int32) (k4 : Int32 → Int32 → Option Int32) (s : HS) : Option Int32 :=
  gd (okX4 (s.2.2.2.2.1)) ((if (s.1 (s.2.2.2.2.1) 14) ≤ v2 then some v1 else gd (inb v2 6) ((if (s.1 77 v2.toNatClampNeg) = (-1) then ltb (v1 + 0) fun x5 => ltb (v2 + 1) fun x6 => k4 x5 x6 else gd (okX4 (s.2.2.2.2.1)) (bnd (f_X4_priceFor (s.2.2.2.2.1) v2 s) fun y8 => ltb (v1 + y8) fun x9 => ltb (v2 + 1) fun x10 => k4 x9 x10)))))
set_option maxRecDepth 20000 in
set_option maxHeartbeats 2000000 in
theorem t_X6_paid_l4b (v1 : Int32) (v2 : Int32) (s : HS) {x : Int32} (k4 : Int32 → Int32 → Option Int32) (hk4 : ∀ (a1 : Int32) (a2 : Int32), k4 a1 a2 = some x → Ev DDX6_paid miX6_paid NF (some (.int x)) NF (hp s) 4 NF [(0, .ref 73), (1, .int a1), (2, .int a2)] [] (hp s)) (hf : f_X6_paid_l4b v1 v2 k4 s = some x) : Ev DDX6_paid miX6_paid NF (some (.int x)) NF (hp s) 4 NF [(0, .ref 73), (1, .int v1), (2, .int v2)] [] (hp s) := by
  refine e_iload_n dX6_paid_4 2 rfl rfl (pc2 := 5) rfl ?_
  refine e_aload_n dX6_paid_5 0 rfl rfl (pc2 := 6) rfl ?_
  obtain ⟨g1, hf⟩ := gd_some hf
  refine e_getR (r := s.2.2.2.2.1) fl_X6_33 dX6_paid_6 so_73 rfl (okX4_ne g1) (pc2 := 9) rfl ?_
  refine e_getI fl_X6_76 dX6_paid_9 (okX4_o g1) (by decide) (pc2 := 12) rfl ?_
  refine e_icmp_ge (tgt := 46) dX6_paid_12 (by decide) (pc2 := 15) rfl (fun c2 => ?_) (fun c2 => ?_)
  · have hf := if_t c2 hf
    refine e_iload_n dX6_paid_46 1 rfl rfl (pc2 := 47) rfl ?_
    cases hf
    exact e_iret rfl dX6_paid_47
  · have hf := if_f c2 hf
    refine e_iload_n dX6_paid_15 1 rfl rfl (pc2 := 16) rfl ?_
    refine e_aload_n dX6_paid_16 0 rfl rfl (pc2 := 17) rfl ?_
    refine e_getR (r := 77) fl_X6_21 dX6_paid_17 so_73 (rs_73_11 s.2.2) (by decide) (pc2 := 20) rfl ?_
    refine e_iload_n dX6_paid_20 2 rfl rfl (pc2 := 21) rfl ?_
    obtain ⟨g3, hf⟩ := gd_some hf
    refine e_iald dX6_paid_21 sa_77 (inb_v g3) (pc2 := 22) rfl ?_
    refine e_iconst (x := (-1)) dX6_paid_22 (by decide) (pc2 := 23) rfl ?_
    refine e_icmp_eq (tgt := 37) dX6_paid_23 (by decide) (pc2 := 26) rfl (fun c4 => ?_) (fun c4 => ?_)
    · have hf := if_t c4 hf
      refine e_iconst (x := 0) dX6_paid_37 (by decide) (pc2 := 38) rfl ?_
      refine e_iadd dX6_paid_38 (pc2 := 39) rfl ?_
      obtain ⟨x5, ex5, hf⟩ := ltb_s hf
      refine e_istore_n dX6_paid_39 rfl (by decide) ex5.symm (ls' := [(0, .ref 73), (1, .int x5), (2, .int v2)]) [1, 0, 2] rfl (pc2 := 40) rfl ?_
      obtain ⟨x6, ex6, hf⟩ := ltb_s hf
      refine e_iinc dX6_paid_40 2 rfl (c9 := 1) (by decide) ex6.symm (by decide) (ls' := [(0, .ref 73), (1, .int x5), (2, .int x6)]) [1, 2, 0] rfl (pc2 := 43) rfl ?_
      refine e_goto (tgt := 4) dX6_paid_43 (by decide) ?_
      exact hk4 x5 x6 hf
    · have hf := if_f c4 hf
      refine e_aload_n dX6_paid_26 0 rfl rfl (pc2 := 27) rfl ?_
      obtain ⟨g7, hf⟩ := gd_some hf
      refine e_getR (r := s.2.2.2.2.1) fl_X6_33 dX6_paid_27 so_73 rfl (okX4_ne g7) (pc2 := 30) rfl ?_
      refine e_iload_n dX6_paid_30 2 rfl rfl (pc2 := 31) rfl ?_
      obtain ⟨y8, hy8, hf⟩ := bnd_s hf
      refine e_callVs (t_X4_priceFor (s.2.2.2.2.1) g7 v2 s hy8) dX6_paid_31 cv_X6_206 rfl (okX4_o g7) rc_4 (by decide) (by first | exact Nat.le_of_ble_eq_true rfl | simp [rva_cat, vc_i, vc_r, vc_l, vc_n]) nn0 rfl (pc2 := 34) rfl ?_
      refine e_goto (tgt := 38) dX6_paid_34 (by decide) ?_
      refine e_iadd dX6_paid_38 (pc2 := 39) rfl ?_
      obtain ⟨x9, ex9, hf⟩ := ltb_s hf
      refine e_istore_n dX6_paid_39 rfl (by decide) ex9.symm (ls' := [(0, .ref 73), (1, .int x9), (2, .int v2)]) [1, 0, 2] rfl (pc2 := 40) rfl ?_
      obtain ⟨x10, ex10, hf⟩ := ltb_s hf
      refine e_iinc dX6_paid_40 2 rfl (c9 := 1) (by decide) ex10.symm (by decide) (ls' := [(0, .ref 73), (1, .int x9), (2, .int x10)]) [1, 2, 0] rfl (pc2 := 43) rfl ?_
      refine e_goto (tgt := 4) dX6_paid_43 (by decide) ?_
      exact hk4 x9 x10 hf
def f_X6_paid_l4  (s : HS) : Nat → Int32 → Int32 → Option Int32
  | 0, _, _ => none
  | n + 1, v1, v2 => f_X6_paid_l4b v1 v2 (f_X6_paid_l4 s n)  s
set_option maxRecDepth 20000 in
set_option maxHeartbeats 2000000 in
theorem t_X6_paid_l4  (s : HS) {x : Int32}  : ∀ (n : Nat) (v1 : Int32) (v2 : Int32), f_X6_paid_l4 s n v1 v2 = some x → Ev DDX6_paid miX6_paid NF (some (.int x)) NF (hp s) 4 NF [(0, .ref 73), (1, .int v1), (2, .int v2)] [] (hp s) := by
  intro n
  induction n with
  | zero =>
    intro v1 v2 hf
    have hf : none = some x := hf
    cases hf
  | succ n ih =>
    intro v1 v2 hf
    exact t_X6_paid_l4b v1 v2  s _ ih  hf
def f_X6_paid  (s : HS) : Option Int32 :=
  f_X6_paid_l4 s FU 0 0
set_option maxRecDepth 20000 in
set_option maxHeartbeats 2000000 in
theorem t_X6_paid  (s : HS) {x : Int32} (hf : f_X6_paid s = some x) : Mt DDX6_paid miX6_paid [.ref 73] NF (hp s) (some (.int x)) NF (hp s) := by
  refine Mt.of (by decide +kernel) (Nat.le_refl _) (Nat.le_of_ble_eq_true rfl) ?_
  show Ev DDX6_paid miX6_paid NF (some (.int x)) NF (hp s) 0 NF [(0, .ref 73)] [] (hp s)
  unfold f_X6_paid at hf
  refine e_iconst (x := 0) dX6_paid_0 (by decide) (pc2 := 1) rfl ?_
  refine e_istore_n dX6_paid_1 rfl (by decide) rfl (ls' := [(0, .ref 73), (1, .int 0)]) [1, 0] rfl (pc2 := 2) rfl ?_
  refine e_iconst (x := 0) dX6_paid_2 (by decide) (pc2 := 3) rfl ?_
  refine e_istore_n dX6_paid_3 rfl (by decide) rfl (ls' := [(0, .ref 73), (1, .int 0), (2, .int 0)]) [1, 2, 0] rfl (pc2 := 4) rfl ?_
  refine t_X6_paid_l4 s FU 0 0 hf
abbrev DDX6_pouredBack : Nat := 1
def f_X6_pouredBack_l17b (v1 : Int32) (v2 : Int32) (v3 : Int32) (k17 : Int32 → Int32 → Option Int32) (k80 : Int32 → Option Int32) (s : HS) : Option Int32 :=
  gd (okX4 (s.2.2.2.2.1)) ((if (s.1 (s.2.2.2.2.1) 12) ≤ v3 then k80 v1 else gd (inb v2 6) ((if (((s.1 79 v2.toNatClampNeg) >>> (v3 &&& 31)) &&& (1 : Int32)) = 0 then ltb (v3 + 1) fun x7 => k17 v1 x7 else gd (okX4 (s.2.2.2.2.1)) (gd (inb v3 5) ((if (s.1 (Rf (Rf (s.2.2.2.2.1) 13) v3.toNatClampNeg) 1) = 2 then ltb (v3 + 1) fun x11 => k17 v1 x11 else gd (okX4 (s.2.2.2.2.1)) (gd (inb v3 5) (ltb (v1 + ((s.1 (Rf (Rf (s.2.2.2.2.1) 13) v3.toNatClampNeg) 3) / 2)) fun x14 => ltb (v3 + 1) fun x15 => k17 x14 x15)))))))))
set_option maxRecDepth 20000 in
set_option maxHeartbeats 2000000 in
theorem t_X6_pouredBack_l17b (v1 : Int32) (v2 : Int32) (v3 : Int32) (s : HS) {x : Int32} (k17 : Int32 → Int32 → Option Int32) (hk17 : ∀ (a1 : Int32) (a3 : Int32), k17 a1 a3 = some x → Ev DDX6_pouredBack miX6_pouredBack NF (some (.int x)) NF (hp s) 17 NF [(0, .ref 73), (1, .int a1), (2, .int v2), (3, .int a3)] [] (hp s)) (k80 : Int32 → Option Int32) (hk80 : ∀ (a1 : Int32), k80 a1 = some x → Ev DDX6_pouredBack miX6_pouredBack NF (some (.int x)) NF (hp s) 80 NF [(0, .ref 73), (1, .int a1), (2, .int v2)] [] (hp s)) (hf : f_X6_pouredBack_l17b v1 v2 v3 k17 k80 s = some x) : Ev DDX6_pouredBack miX6_pouredBack NF (some (.int x)) NF (hp s) 17 NF [(0, .ref 73), (1, .int v1), (2, .int v2), (3, .int v3)] [] (hp s) := by
  refine e_iload_n dX6_pouredBack_17 3 rfl rfl (pc2 := 18) rfl ?_
  refine e_aload_n dX6_pouredBack_18 0 rfl rfl (pc2 := 19) rfl ?_
  obtain ⟨g3, hf⟩ := gd_some hf
  refine e_getR (r := s.2.2.2.2.1) fl_X6_33 dX6_pouredBack_19 so_73 rfl (okX4_ne g3) (pc2 := 22) rfl ?_
  refine e_getI fl_X6_209 dX6_pouredBack_22 (okX4_o g3) (by decide) (pc2 := 25) rfl ?_
  refine e_icmp_ge (tgt := 80) dX6_pouredBack_25 (by decide) (pc2 := 28) rfl (fun c4 => ?_) (fun c4 => ?_)
  · have hf := if_t c4 hf
    refine ev_sub [0, 1, 2] rfl ?_
    exact hk80 v1 hf
  · have hf := if_f c4 hf
    refine e_aload_n dX6_pouredBack_28 0 rfl rfl (pc2 := 29) rfl ?_
    refine e_getR (r := 79) fl_X6_27 dX6_pouredBack_29 so_73 (rs_73_13 s.2.2) (by decide) (pc2 := 32) rfl ?_
    refine e_iload_n dX6_pouredBack_32 2 rfl rfl (pc2 := 33) rfl ?_
    obtain ⟨g5, hf⟩ := gd_some hf
    refine e_iald dX6_pouredBack_33 sa_79 (inb_v g5) (pc2 := 34) rfl ?_
    refine e_iload_n dX6_pouredBack_34 3 rfl rfl (pc2 := 35) rfl ?_
    refine e_ishr dX6_pouredBack_35 (pc2 := 36) rfl ?_
    refine e_iconst (x := 1) dX6_pouredBack_36 (by decide) (pc2 := 37) rfl ?_
    refine e_iand dX6_pouredBack_37 (pc2 := 38) rfl ?_
    refine e_if_eq (tgt := 74) dX6_pouredBack_38 (by decide) (pc2 := 41) rfl (fun c6 => ?_) (fun c6 => ?_)
    · have hf := if_t c6 hf
      obtain ⟨x7, ex7, hf⟩ := ltb_s hf
      refine e_iinc dX6_pouredBack_74 3 rfl (c9 := 1) (by decide) ex7.symm (by decide) (ls' := [(0, .ref 73), (1, .int v1), (2, .int v2), (3, .int x7)]) [1, 2, 3, 0] rfl (pc2 := 77) rfl ?_
      refine e_goto (tgt := 17) dX6_pouredBack_77 (by decide) ?_
      exact hk17 v1 x7 hf
    · have hf := if_f c6 hf
      refine e_aload_n dX6_pouredBack_41 0 rfl rfl (pc2 := 42) rfl ?_
      obtain ⟨g8, hf⟩ := gd_some hf
      refine e_getR (r := s.2.2.2.2.1) fl_X6_33 dX6_pouredBack_42 so_73 rfl (okX4_ne g8) (pc2 := 45) rfl ?_
      refine e_getR (r := Rf (s.2.2.2.2.1) 13) fl_X6_166 dX6_pouredBack_45 (okX4_o g8) (okX4_R g8) (isA_ne (okX4_thing g8)) (pc2 := 48) rfl ?_
      refine e_iload_n dX6_pouredBack_48 3 rfl rfl (pc2 := 49) rfl ?_
      obtain ⟨g9, hf⟩ := gd_some hf
      refine e_aald (r := Rf (Rf (s.2.2.2.2.1) 13) v3.toNatClampNeg) dX6_pouredBack_49 (okX4_thing g8) (by decide) (inb_v g9) (Rs_na (q := s.2.2) (okX4_thing g8) (by decide)) (okX9_ne (okX4_thing_el g8 (inb_v g9))) (pc2 := 50) rfl ?_
      refine e_getI fl_X6_199 dX6_pouredBack_50 (okX9_o (okX4_thing_el g8 (inb_v g9))) (by decide) (pc2 := 53) rfl ?_
      refine e_iconst (x := 2) dX6_pouredBack_53 (by decide) (pc2 := 54) rfl ?_
      refine e_icmp_eq (tgt := 74) dX6_pouredBack_54 (by decide) (pc2 := 57) rfl (fun c10 => ?_) (fun c10 => ?_)
      · have hf := if_t c10 hf
        obtain ⟨x11, ex11, hf⟩ := ltb_s hf
        refine e_iinc dX6_pouredBack_74 3 rfl (c9 := 1) (by decide) ex11.symm (by decide) (ls' := [(0, .ref 73), (1, .int v1), (2, .int v2), (3, .int x11)]) [1, 2, 3, 0] rfl (pc2 := 77) rfl ?_
        refine e_goto (tgt := 17) dX6_pouredBack_77 (by decide) ?_
        exact hk17 v1 x11 hf
      · have hf := if_f c10 hf
        refine e_iload_n dX6_pouredBack_57 1 rfl rfl (pc2 := 58) rfl ?_
        refine e_aload_n dX6_pouredBack_58 0 rfl rfl (pc2 := 59) rfl ?_
        obtain ⟨g12, hf⟩ := gd_some hf
        refine e_getR (r := s.2.2.2.2.1) fl_X6_33 dX6_pouredBack_59 so_73 rfl (okX4_ne g12) (pc2 := 62) rfl ?_
        refine e_getR (r := Rf (s.2.2.2.2.1) 13) fl_X6_166 dX6_pouredBack_62 (okX4_o g12) (okX4_R g12) (isA_ne (okX4_thing g12)) (pc2 := 65) rfl ?_
        refine e_iload_n dX6_pouredBack_65 3 rfl rfl (pc2 := 66) rfl ?_
        obtain ⟨g13, hf⟩ := gd_some hf
        refine e_aald (r := Rf (Rf (s.2.2.2.2.1) 13) v3.toNatClampNeg) dX6_pouredBack_66 (okX4_thing g12) (by decide) (inb_v g13) (Rs_na (q := s.2.2) (okX4_thing g12) (by decide)) (okX9_ne (okX4_thing_el g12 (inb_v g13))) (pc2 := 67) rfl ?_
        refine e_getI fl_X6_212 dX6_pouredBack_67 (okX9_o (okX4_thing_el g12 (inb_v g13))) (by decide) (pc2 := 70) rfl ?_
        refine e_iconst (x := 2) dX6_pouredBack_70 (by decide) (pc2 := 71) rfl ?_
        refine e_idiv dX6_pouredBack_71 (by decide) (pc2 := 72) rfl ?_
        refine e_iadd dX6_pouredBack_72 (pc2 := 73) rfl ?_
        obtain ⟨x14, ex14, hf⟩ := ltb_s hf
        refine e_istore_n dX6_pouredBack_73 rfl (by decide) ex14.symm (ls' := [(0, .ref 73), (1, .int x14), (2, .int v2), (3, .int v3)]) [1, 0, 2, 3] rfl (pc2 := 74) rfl ?_
        obtain ⟨x15, ex15, hf⟩ := ltb_s hf
        refine e_iinc dX6_pouredBack_74 3 rfl (c9 := 1) (by decide) ex15.symm (by decide) (ls' := [(0, .ref 73), (1, .int x14), (2, .int v2), (3, .int x15)]) [1, 2, 3, 0] rfl (pc2 := 77) rfl ?_
        refine e_goto (tgt := 17) dX6_pouredBack_77 (by decide) ?_
        exact hk17 x14 x15 hf
def f_X6_pouredBack_l17 (v2 : Int32) (k80 : Int32 → Option Int32) (s : HS) : Nat → Int32 → Int32 → Option Int32
  | 0, _, _ => none
  | n + 1, v1, v3 => f_X6_pouredBack_l17b v1 v2 v3 (f_X6_pouredBack_l17 v2 k80 s n) k80 s
set_option maxRecDepth 20000 in
set_option maxHeartbeats 2000000 in
theorem t_X6_pouredBack_l17 (v2 : Int32) (s : HS) {x : Int32} (k80 : Int32 → Option Int32) (hk80 : ∀ (a1 : Int32), k80 a1 = some x → Ev DDX6_pouredBack miX6_pouredBack NF (some (.int x)) NF (hp s) 80 NF [(0, .ref 73), (1, .int a1), (2, .int v2)] [] (hp s)) : ∀ (n : Nat) (v1 : Int32) (v3 : Int32), f_X6_pouredBack_l17 v2 k80 s n v1 v3 = some x → Ev DDX6_pouredBack miX6_pouredBack NF (some (.int x)) NF (hp s) 17 NF [(0, .ref 73), (1, .int v1), (2, .int v2), (3, .int v3)] [] (hp s) := by
  intro n
  induction n with
  | zero =>
    intro v1 v3 hf
    have hf : none = some x := hf
    cases hf
  | succ n ih =>
    intro v1 v3 hf
    exact t_X6_pouredBack_l17b v1 v2 v3  s _ ih _ hk80 hf
def f_X6_pouredBack_l4b (v1 : Int32) (v2 : Int32) (k4 : Int32 → Int32 → Option Int32) (s : HS) : Option Int32 :=
  gd (okX4 (s.2.2.2.2.1)) ((if (s.1 (s.2.2.2.2.1) 14) ≤ v2 then some v1 else f_X6_pouredBack_l17 v2 (fun v16 => ltb (v2 + 1) fun x17 => k4 v16 x17) s FU v1 0))
set_option maxRecDepth 20000 in
set_option maxHeartbeats 2000000 in
theorem t_X6_pouredBack_l4b (v1 : Int32) (v2 : Int32) (s : HS) {x : Int32} (k4 : Int32 → Int32 → Option Int32) (hk4 : ∀ (a1 : Int32) (a2 : Int32), k4 a1 a2 = some x → Ev DDX6_pouredBack miX6_pouredBack NF (some (.int x)) NF (hp s) 4 NF [(0, .ref 73), (1, .int a1), (2, .int a2)] [] (hp s)) (hf : f_X6_pouredBack_l4b v1 v2 k4 s = some x) : Ev DDX6_pouredBack miX6_pouredBack NF (some (.int x)) NF (hp s) 4 NF [(0, .ref 73), (1, .int v1), (2, .int v2)] [] (hp s) := by
  refine e_iload_n dX6_pouredBack_4 2 rfl rfl (pc2 := 5) rfl ?_
  refine e_aload_n dX6_pouredBack_5 0 rfl rfl (pc2 := 6) rfl ?_
  obtain ⟨g1, hf⟩ := gd_some hf
  refine e_getR (r := s.2.2.2.2.1) fl_X6_33 dX6_pouredBack_6 so_73 rfl (okX4_ne g1) (pc2 := 9) rfl ?_
  refine e_getI fl_X6_76 dX6_pouredBack_9 (okX4_o g1) (by decide) (pc2 := 12) rfl ?_
  refine e_icmp_ge (tgt := 86) dX6_pouredBack_12 (by decide) (pc2 := 15) rfl (fun c2 => ?_) (fun c2 => ?_)
  · have hf := if_t c2 hf
    refine e_iload_n dX6_pouredBack_86 1 rfl rfl (pc2 := 87) rfl ?_
    cases hf
    exact e_iret rfl dX6_pouredBack_87
  · have hf := if_f c2 hf
    refine e_iconst (x := 0) dX6_pouredBack_15 (by decide) (pc2 := 16) rfl ?_
    refine e_istore_n dX6_pouredBack_16 rfl (by decide) rfl (ls' := [(0, .ref 73), (1, .int v1), (2, .int v2), (3, .int 0)]) [1, 2, 3, 0] rfl (pc2 := 17) rfl ?_
    refine t_X6_pouredBack_l17 v2 s _ ?_ FU v1 0 hf
    · intro v16 hf
      obtain ⟨x17, ex17, hf⟩ := ltb_s hf
      refine e_iinc dX6_pouredBack_80 2 rfl (c9 := 1) (by decide) ex17.symm (by decide) (ls' := [(0, .ref 73), (1, .int v16), (2, .int x17)]) [1, 2, 0] rfl (pc2 := 83) rfl ?_
      refine e_goto (tgt := 4) dX6_pouredBack_83 (by decide) ?_
      exact hk4 v16 x17 hf
def f_X6_pouredBack_l4  (s : HS) : Nat → Int32 → Int32 → Option Int32
  | 0, _, _ => none
  | n + 1, v1, v2 => f_X6_pouredBack_l4b v1 v2 (f_X6_pouredBack_l4 s n)  s
set_option maxRecDepth 20000 in
set_option maxHeartbeats 2000000 in
theorem t_X6_pouredBack_l4  (s : HS) {x : Int32}  : ∀ (n : Nat) (v1 : Int32) (v2 : Int32), f_X6_pouredBack_l4 s n v1 v2 = some x → Ev DDX6_pouredBack miX6_pouredBack NF (some (.int x)) NF (hp s) 4 NF [(0, .ref 73), (1, .int v1), (2, .int v2)] [] (hp s) := by
  intro n
  induction n with
  | zero =>
    intro v1 v2 hf
    have hf : none = some x := hf
    cases hf
  | succ n ih =>
    intro v1 v2 hf
    exact t_X6_pouredBack_l4b v1 v2  s _ ih  hf
def f_X6_pouredBack  (s : HS) : Option Int32 :=
  f_X6_pouredBack_l4 s FU 0 0
set_option maxRecDepth 20000 in
set_option maxHeartbeats 2000000 in
theorem t_X6_pouredBack  (s : HS) {x : Int32} (hf : f_X6_pouredBack s = some x) : Mt DDX6_pouredBack miX6_pouredBack [.ref 73] NF (hp s) (some (.int x)) NF (hp s) := by
  refine Mt.of (by decide +kernel) (Nat.le_refl _) (Nat.le_of_ble_eq_true rfl) ?_
  show Ev DDX6_pouredBack miX6_pouredBack NF (some (.int x)) NF (hp s) 0 NF [(0, .ref 73)] [] (hp s)
  unfold f_X6_pouredBack at hf
  refine e_iconst (x := 0) dX6_pouredBack_0 (by decide) (pc2 := 1) rfl ?_
  refine e_istore_n dX6_pouredBack_1 rfl (by decide) rfl (ls' := [(0, .ref 73), (1, .int 0)]) [1, 0] rfl (pc2 := 2) rfl ?_
  refine e_iconst (x := 0) dX6_pouredBack_2 (by decide) (pc2 := 3) rfl ?_
  refine e_istore_n dX6_pouredBack_3 rfl (by decide) rfl (ls' := [(0, .ref 73), (1, .int 0), (2, .int 0)]) [1, 2, 0] rfl (pc2 := 4) rfl ?_
  refine t_X6_pouredBack_l4 s FU 0 0 hf
abbrev DDJ6_bitCount_0f7a4 : Nat := 1
def f_J6_bitCount_0f7a4 (v0 : Int32) (s : HS) : Int32 :=
  ltb (v0 - (((v0.toUInt32 >>> ((1 : Int32).toUInt32 &&& Int32.toUInt32 31)).toInt32) &&& (1431655765 : Int32))) fun x1 => ltb ((x1 &&& (858993459 : Int32)) + (((x1.toUInt32 >>> ((2 : Int32).toUInt32 &&& Int32.toUInt32 31)).toInt32) &&& (858993459 : Int32))) fun x2 => ltb ((x2 + ((x2.toUInt32 >>> ((4 : Int32).toUInt32 &&& Int32.toUInt32 31)).toInt32)) &&& (252645135 : Int32)) fun x3 => ltb (x3 + ((x3.toUInt32 >>> ((8 : Int32).toUInt32 &&& Int32.toUInt32 31)).toInt32)) fun x4 => ltb (x4 + ((x4.toUInt32 >>> ((16 : Int32).toUInt32 &&& Int32.toUInt32 31)).toInt32)) fun x5 => x5 &&& (63 : Int32)
set_option maxRecDepth 20000 in
set_option maxHeartbeats 2000000 in
theorem t_J6_bitCount_0f7a4 (v0 : Int32) (s : HS) {x : Int32} (hf : f_J6_bitCount_0f7a4 v0 s = x) : Mt DDJ6_bitCount_0f7a4 miJ6_bitCount_0f7a4 [.int v0] NF (hp s) (some (.int x)) NF (hp s) := by
  refine Mt.of (by decide +kernel) (Nat.le_refl _) (Nat.le_of_ble_eq_true rfl) ?_
  show Ev DDJ6_bitCount_0f7a4 miJ6_bitCount_0f7a4 NF (some (.int x)) NF (hp s) 0 NF [(0, .int v0)] [] (hp s)
  unfold f_J6_bitCount_0f7a4 at hf
  refine e_iload_n dJ6_bitCount_0f7a4_0 0 rfl rfl (pc2 := 1) rfl ?_
  refine e_iload_n dJ6_bitCount_0f7a4_1 0 rfl rfl (pc2 := 2) rfl ?_
  refine e_iconst (x := 1) dJ6_bitCount_0f7a4_2 (by decide) (pc2 := 3) rfl ?_
  refine e_iushr dJ6_bitCount_0f7a4_3 (pc2 := 4) rfl ?_
  refine e_ldcw dJ6_bitCount_0f7a4_4 lk_J6_265 (pc2 := 7) rfl ?_
  refine e_iand dJ6_bitCount_0f7a4_7 (pc2 := 8) rfl ?_
  refine e_isub dJ6_bitCount_0f7a4_8 (pc2 := 9) rfl ?_
  obtain ⟨x1, ex1, hf⟩ := ltb_s hf
  refine e_istore_n dJ6_bitCount_0f7a4_9 rfl (by decide) ex1.symm (ls' := [(0, .int x1)]) [0] rfl (pc2 := 10) rfl ?_
  refine e_iload_n dJ6_bitCount_0f7a4_10 0 rfl rfl (pc2 := 11) rfl ?_
  refine e_ldcw dJ6_bitCount_0f7a4_11 lk_J6_266 (pc2 := 14) rfl ?_
  refine e_iand dJ6_bitCount_0f7a4_14 (pc2 := 15) rfl ?_
  refine e_iload_n dJ6_bitCount_0f7a4_15 0 rfl rfl (pc2 := 16) rfl ?_
  refine e_iconst (x := 2) dJ6_bitCount_0f7a4_16 (by decide) (pc2 := 17) rfl ?_
  refine e_iushr dJ6_bitCount_0f7a4_17 (pc2 := 18) rfl ?_
  refine e_ldcw dJ6_bitCount_0f7a4_18 lk_J6_266 (pc2 := 21) rfl ?_
  refine e_iand dJ6_bitCount_0f7a4_21 (pc2 := 22) rfl ?_
  refine e_iadd dJ6_bitCount_0f7a4_22 (pc2 := 23) rfl ?_
  obtain ⟨x2, ex2, hf⟩ := ltb_s hf
  refine e_istore_n dJ6_bitCount_0f7a4_23 rfl (by decide) ex2.symm (ls' := [(0, .int x2)]) [0] rfl (pc2 := 24) rfl ?_
  refine e_iload_n dJ6_bitCount_0f7a4_24 0 rfl rfl (pc2 := 25) rfl ?_
  refine e_iload_n dJ6_bitCount_0f7a4_25 0 rfl rfl (pc2 := 26) rfl ?_
  refine e_iconst (x := 4) dJ6_bitCount_0f7a4_26 (by decide) (pc2 := 27) rfl ?_
  refine e_iushr dJ6_bitCount_0f7a4_27 (pc2 := 28) rfl ?_
  refine e_iadd dJ6_bitCount_0f7a4_28 (pc2 := 29) rfl ?_
  refine e_ldcw dJ6_bitCount_0f7a4_29 lk_J6_267 (pc2 := 32) rfl ?_
  refine e_iand dJ6_bitCount_0f7a4_32 (pc2 := 33) rfl ?_
  obtain ⟨x3, ex3, hf⟩ := ltb_s hf
  refine e_istore_n dJ6_bitCount_0f7a4_33 rfl (by decide) ex3.symm (ls' := [(0, .int x3)]) [0] rfl (pc2 := 34) rfl ?_
  refine e_iload_n dJ6_bitCount_0f7a4_34 0 rfl rfl (pc2 := 35) rfl ?_
  refine e_iload_n dJ6_bitCount_0f7a4_35 0 rfl rfl (pc2 := 36) rfl ?_
  refine e_bipush (x := 8) dJ6_bitCount_0f7a4_36 (by decide) (pc2 := 38) rfl ?_
  refine e_iushr dJ6_bitCount_0f7a4_38 (pc2 := 39) rfl ?_
  refine e_iadd dJ6_bitCount_0f7a4_39 (pc2 := 40) rfl ?_
  obtain ⟨x4, ex4, hf⟩ := ltb_s hf
  refine e_istore_n dJ6_bitCount_0f7a4_40 rfl (by decide) ex4.symm (ls' := [(0, .int x4)]) [0] rfl (pc2 := 41) rfl ?_
  refine e_iload_n dJ6_bitCount_0f7a4_41 0 rfl rfl (pc2 := 42) rfl ?_
  refine e_iload_n dJ6_bitCount_0f7a4_42 0 rfl rfl (pc2 := 43) rfl ?_
  refine e_bipush (x := 16) dJ6_bitCount_0f7a4_43 (by decide) (pc2 := 45) rfl ?_
  refine e_iushr dJ6_bitCount_0f7a4_45 (pc2 := 46) rfl ?_
  refine e_iadd dJ6_bitCount_0f7a4_46 (pc2 := 47) rfl ?_
  obtain ⟨x5, ex5, hf⟩ := ltb_s hf
  refine e_istore_n dJ6_bitCount_0f7a4_47 rfl (by decide) ex5.symm (ls' := [(0, .int x5)]) [0] rfl (pc2 := 48) rfl ?_
  refine e_iload_n dJ6_bitCount_0f7a4_48 0 rfl rfl (pc2 := 49) rfl ?_
  refine e_bipush (x := 63) dJ6_bitCount_0f7a4_49 (by decide) (pc2 := 51) rfl ?_
  refine e_iand dJ6_bitCount_0f7a4_51 (pc2 := 52) rfl ?_
  cases hf
  exact e_iret rfl dJ6_bitCount_0f7a4_52
abbrev DDX6_drunkInAll : Nat := 2
def f_X6_drunkInAll_l4b (v1 : Int32) (v2 : Int32) (k4 : Int32 → Int32 → Option Int32) (s : HS) : Option Int32 :=
  gd (okX4 (s.2.2.2.2.1)) ((if (s.1 (s.2.2.2.2.1) 14) ≤ v2 then some v1 else gd (inb v2 6) (ltb (v1 + (f_J6_bitCount_0f7a4 (s.1 78 v2.toNatClampNeg) s)) fun x4 => ltb (v2 + 1) fun x5 => k4 x4 x5)))
set_option maxRecDepth 20000 in
set_option maxHeartbeats 2000000 in
theorem t_X6_drunkInAll_l4b (v1 : Int32) (v2 : Int32) (s : HS) {x : Int32} (k4 : Int32 → Int32 → Option Int32) (hk4 : ∀ (a1 : Int32) (a2 : Int32), k4 a1 a2 = some x → Ev DDX6_drunkInAll miX6_drunkInAll NF (some (.int x)) NF (hp s) 4 NF [(0, .ref 73), (1, .int a1), (2, .int a2)] [] (hp s)) (hf : f_X6_drunkInAll_l4b v1 v2 k4 s = some x) : Ev DDX6_drunkInAll miX6_drunkInAll NF (some (.int x)) NF (hp s) 4 NF [(0, .ref 73), (1, .int v1), (2, .int v2)] [] (hp s) := by
  refine e_iload_n dX6_drunkInAll_4 2 rfl rfl (pc2 := 5) rfl ?_
  refine e_aload_n dX6_drunkInAll_5 0 rfl rfl (pc2 := 6) rfl ?_
  obtain ⟨g1, hf⟩ := gd_some hf
  refine e_getR (r := s.2.2.2.2.1) fl_X6_33 dX6_drunkInAll_6 so_73 rfl (okX4_ne g1) (pc2 := 9) rfl ?_
  refine e_getI fl_X6_76 dX6_drunkInAll_9 (okX4_o g1) (by decide) (pc2 := 12) rfl ?_
  refine e_icmp_ge (tgt := 33) dX6_drunkInAll_12 (by decide) (pc2 := 15) rfl (fun c2 => ?_) (fun c2 => ?_)
  · have hf := if_t c2 hf
    refine e_iload_n dX6_drunkInAll_33 1 rfl rfl (pc2 := 34) rfl ?_
    cases hf
    exact e_iret rfl dX6_drunkInAll_34
  · have hf := if_f c2 hf
    refine e_iload_n dX6_drunkInAll_15 1 rfl rfl (pc2 := 16) rfl ?_
    refine e_aload_n dX6_drunkInAll_16 0 rfl rfl (pc2 := 17) rfl ?_
    refine e_getR (r := 78) fl_X6_24 dX6_drunkInAll_17 so_73 (rs_73_12 s.2.2) (by decide) (pc2 := 20) rfl ?_
    refine e_iload_n dX6_drunkInAll_20 2 rfl rfl (pc2 := 21) rfl ?_
    obtain ⟨g3, hf⟩ := gd_some hf
    refine e_iald dX6_drunkInAll_21 sa_78 (inb_v g3) (pc2 := 22) rfl ?_
    refine e_callSs (t_J6_bitCount_0f7a4 (s.1 78 v2.toNatClampNeg) s rfl) dX6_drunkInAll_22 cs_X6_215 rfl (by decide) (by first | exact Nat.le_of_ble_eq_true rfl | simp [rva_cat, vc_i, vc_r, vc_l, vc_n]) nn0 rfl (pc2 := 25) rfl ?_
    refine e_iadd dX6_drunkInAll_25 (pc2 := 26) rfl ?_
    obtain ⟨x4, ex4, hf⟩ := ltb_s hf
    refine e_istore_n dX6_drunkInAll_26 rfl (by decide) ex4.symm (ls' := [(0, .ref 73), (1, .int x4), (2, .int v2)]) [1, 0, 2] rfl (pc2 := 27) rfl ?_
    obtain ⟨x5, ex5, hf⟩ := ltb_s hf
    refine e_iinc dX6_drunkInAll_27 2 rfl (c9 := 1) (by decide) ex5.symm (by decide) (ls' := [(0, .ref 73), (1, .int x4), (2, .int x5)]) [1, 2, 0] rfl (pc2 := 30) rfl ?_
    refine e_goto (tgt := 4) dX6_drunkInAll_30 (by decide) ?_
    exact hk4 x4 x5 hf
def f_X6_drunkInAll_l4  (s : HS) : Nat → Int32 → Int32 → Option Int32
  | 0, _, _ => none
  | n + 1, v1, v2 => f_X6_drunkInAll_l4b v1 v2 (f_X6_drunkInAll_l4 s n)  s
set_option maxRecDepth 20000 in
set_option maxHeartbeats 2000000 in
theorem t_X6_drunkInAll_l4  (s : HS) {x : Int32}  : ∀ (n : Nat) (v1 : Int32) (v2 : Int32), f_X6_drunkInAll_l4 s n v1 v2 = some x → Ev DDX6_drunkInAll miX6_drunkInAll NF (some (.int x)) NF (hp s) 4 NF [(0, .ref 73), (1, .int v1), (2, .int v2)] [] (hp s) := by
  intro n
  induction n with
  | zero =>
    intro v1 v2 hf
    have hf : none = some x := hf
    cases hf
  | succ n ih =>
    intro v1 v2 hf
    exact t_X6_drunkInAll_l4b v1 v2  s _ ih  hf
def f_X6_drunkInAll  (s : HS) : Option Int32 :=
  f_X6_drunkInAll_l4 s FU 0 0
set_option maxRecDepth 20000 in
set_option maxHeartbeats 2000000 in
theorem t_X6_drunkInAll  (s : HS) {x : Int32} (hf : f_X6_drunkInAll s = some x) : Mt DDX6_drunkInAll miX6_drunkInAll [.ref 73] NF (hp s) (some (.int x)) NF (hp s) := by
  refine Mt.of (by decide +kernel) (Nat.le_refl _) (Nat.le_of_ble_eq_true rfl) ?_
  show Ev DDX6_drunkInAll miX6_drunkInAll NF (some (.int x)) NF (hp s) 0 NF [(0, .ref 73)] [] (hp s)
  unfold f_X6_drunkInAll at hf
  refine e_iconst (x := 0) dX6_drunkInAll_0 (by decide) (pc2 := 1) rfl ?_
  refine e_istore_n dX6_drunkInAll_1 rfl (by decide) rfl (ls' := [(0, .ref 73), (1, .int 0)]) [1, 0] rfl (pc2 := 2) rfl ?_
  refine e_iconst (x := 0) dX6_drunkInAll_2 (by decide) (pc2 := 3) rfl ?_
  refine e_istore_n dX6_drunkInAll_3 rfl (by decide) rfl (ls' := [(0, .ref 73), (1, .int 0), (2, .int 0)]) [1, 2, 0] rfl (pc2 := 4) rfl ?_
  refine t_X6_drunkInAll_l4 s FU 0 0 hf
abbrev DDX6_leftInAll : Nat := 2
def f_X6_leftInAll_l4b (v1 : Int32) (v2 : Int32) (k4 : Int32 → Int32 → Option Int32) (s : HS) : Option Int32 :=
  gd (okX4 (s.2.2.2.2.1)) ((if (s.1 (s.2.2.2.2.1) 14) ≤ v2 then some v1 else gd (inb v2 6) (ltb (v1 + (f_J6_bitCount_0f7a4 (s.1 79 v2.toNatClampNeg) s)) fun x4 => ltb (v2 + 1) fun x5 => k4 x4 x5)))
set_option maxRecDepth 20000 in
set_option maxHeartbeats 2000000 in
theorem t_X6_leftInAll_l4b (v1 : Int32) (v2 : Int32) (s : HS) {x : Int32} (k4 : Int32 → Int32 → Option Int32) (hk4 : ∀ (a1 : Int32) (a2 : Int32), k4 a1 a2 = some x → Ev DDX6_leftInAll miX6_leftInAll NF (some (.int x)) NF (hp s) 4 NF [(0, .ref 73), (1, .int a1), (2, .int a2)] [] (hp s)) (hf : f_X6_leftInAll_l4b v1 v2 k4 s = some x) : Ev DDX6_leftInAll miX6_leftInAll NF (some (.int x)) NF (hp s) 4 NF [(0, .ref 73), (1, .int v1), (2, .int v2)] [] (hp s) := by
  refine e_iload_n dX6_leftInAll_4 2 rfl rfl (pc2 := 5) rfl ?_
  refine e_aload_n dX6_leftInAll_5 0 rfl rfl (pc2 := 6) rfl ?_
  obtain ⟨g1, hf⟩ := gd_some hf
  refine e_getR (r := s.2.2.2.2.1) fl_X6_33 dX6_leftInAll_6 so_73 rfl (okX4_ne g1) (pc2 := 9) rfl ?_
  refine e_getI fl_X6_76 dX6_leftInAll_9 (okX4_o g1) (by decide) (pc2 := 12) rfl ?_
  refine e_icmp_ge (tgt := 33) dX6_leftInAll_12 (by decide) (pc2 := 15) rfl (fun c2 => ?_) (fun c2 => ?_)
  · have hf := if_t c2 hf
    refine e_iload_n dX6_leftInAll_33 1 rfl rfl (pc2 := 34) rfl ?_
    cases hf
    exact e_iret rfl dX6_leftInAll_34
  · have hf := if_f c2 hf
    refine e_iload_n dX6_leftInAll_15 1 rfl rfl (pc2 := 16) rfl ?_
    refine e_aload_n dX6_leftInAll_16 0 rfl rfl (pc2 := 17) rfl ?_
    refine e_getR (r := 79) fl_X6_27 dX6_leftInAll_17 so_73 (rs_73_13 s.2.2) (by decide) (pc2 := 20) rfl ?_
    refine e_iload_n dX6_leftInAll_20 2 rfl rfl (pc2 := 21) rfl ?_
    obtain ⟨g3, hf⟩ := gd_some hf
    refine e_iald dX6_leftInAll_21 sa_79 (inb_v g3) (pc2 := 22) rfl ?_
    refine e_callSs (t_J6_bitCount_0f7a4 (s.1 79 v2.toNatClampNeg) s rfl) dX6_leftInAll_22 cs_X6_215 rfl (by decide) (by first | exact Nat.le_of_ble_eq_true rfl | simp [rva_cat, vc_i, vc_r, vc_l, vc_n]) nn0 rfl (pc2 := 25) rfl ?_
    refine e_iadd dX6_leftInAll_25 (pc2 := 26) rfl ?_
    obtain ⟨x4, ex4, hf⟩ := ltb_s hf
    refine e_istore_n dX6_leftInAll_26 rfl (by decide) ex4.symm (ls' := [(0, .ref 73), (1, .int x4), (2, .int v2)]) [1, 0, 2] rfl (pc2 := 27) rfl ?_
    obtain ⟨x5, ex5, hf⟩ := ltb_s hf
    refine e_iinc dX6_leftInAll_27 2 rfl (c9 := 1) (by decide) ex5.symm (by decide) (ls' := [(0, .ref 73), (1, .int x4), (2, .int x5)]) [1, 2, 0] rfl (pc2 := 30) rfl ?_
    refine e_goto (tgt := 4) dX6_leftInAll_30 (by decide) ?_
    exact hk4 x4 x5 hf
def f_X6_leftInAll_l4  (s : HS) : Nat → Int32 → Int32 → Option Int32
  | 0, _, _ => none
  | n + 1, v1, v2 => f_X6_leftInAll_l4b v1 v2 (f_X6_leftInAll_l4 s n)  s
set_option maxRecDepth 20000 in
set_option maxHeartbeats 2000000 in
theorem t_X6_leftInAll_l4  (s : HS) {x : Int32}  : ∀ (n : Nat) (v1 : Int32) (v2 : Int32), f_X6_leftInAll_l4 s n v1 v2 = some x → Ev DDX6_leftInAll miX6_leftInAll NF (some (.int x)) NF (hp s) 4 NF [(0, .ref 73), (1, .int v1), (2, .int v2)] [] (hp s) := by
  intro n
  induction n with
  | zero =>
    intro v1 v2 hf
    have hf : none = some x := hf
    cases hf
  | succ n ih =>
    intro v1 v2 hf
    exact t_X6_leftInAll_l4b v1 v2  s _ ih  hf
def f_X6_leftInAll  (s : HS) : Option Int32 :=
  f_X6_leftInAll_l4 s FU 0 0
set_option maxRecDepth 20000 in
set_option maxHeartbeats 2000000 in
theorem t_X6_leftInAll  (s : HS) {x : Int32} (hf : f_X6_leftInAll s = some x) : Mt DDX6_leftInAll miX6_leftInAll [.ref 73] NF (hp s) (some (.int x)) NF (hp s) := by
  refine Mt.of (by decide +kernel) (Nat.le_refl _) (Nat.le_of_ble_eq_true rfl) ?_
  show Ev DDX6_leftInAll miX6_leftInAll NF (some (.int x)) NF (hp s) 0 NF [(0, .ref 73)] [] (hp s)
  unfold f_X6_leftInAll at hf
  refine e_iconst (x := 0) dX6_leftInAll_0 (by decide) (pc2 := 1) rfl ?_
  refine e_istore_n dX6_leftInAll_1 rfl (by decide) rfl (ls' := [(0, .ref 73), (1, .int 0)]) [1, 0] rfl (pc2 := 2) rfl ?_
  refine e_iconst (x := 0) dX6_leftInAll_2 (by decide) (pc2 := 3) rfl ?_
  refine e_istore_n dX6_leftInAll_3 rfl (by decide) rfl (ls' := [(0, .ref 73), (1, .int 0), (2, .int 0)]) [1, 2, 0] rfl (pc2 := 4) rfl ?_
  refine t_X6_leftInAll_l4 s FU 0 0 hf
abbrev DDX6_servedBy : Nat := 1
def f_X6_servedBy_l4b (v1 : Int32) (v2 : Int32) (v3 : Int32) (k4 : Int32 → Int32 → Option Int32) (s : HS) : Option Int32 :=
  gd (okX4 (s.2.2.2.2.1)) ((if (s.1 (s.2.2.2.2.1) 14) ≤ v3 then some v2 else gd (inb v3 6) ((if (s.1 77 v3.toNatClampNeg) = (-1) then ltb (v3 + 1) fun x5 => k4 v2 x5 else gd (inb v3 6) ((if v1 < (s.1 77 v3.toNatClampNeg) then ltb (v3 + 1) fun x8 => k4 v2 x8 else ltb (v2 + 1) fun x9 => ltb (v3 + 1) fun x10 => k4 x9 x10))))))
set_option maxRecDepth 20000 in
set_option maxHeartbeats 2000000 in
theorem t_X6_servedBy_l4b (v1 : Int32) (v2 : Int32) (v3 : Int32) (s : HS) {x : Int32} (k4 : Int32 → Int32 → Option Int32) (hk4 : ∀ (a2 : Int32) (a3 : Int32), k4 a2 a3 = some x → Ev DDX6_servedBy miX6_servedBy NF (some (.int x)) NF (hp s) 4 NF [(0, .ref 73), (1, .int v1), (2, .int a2), (3, .int a3)] [] (hp s)) (hf : f_X6_servedBy_l4b v1 v2 v3 k4 s = some x) : Ev DDX6_servedBy miX6_servedBy NF (some (.int x)) NF (hp s) 4 NF [(0, .ref 73), (1, .int v1), (2, .int v2), (3, .int v3)] [] (hp s) := by
  refine e_iload_n dX6_servedBy_4 3 rfl rfl (pc2 := 5) rfl ?_
  refine e_aload_n dX6_servedBy_5 0 rfl rfl (pc2 := 6) rfl ?_
  obtain ⟨g1, hf⟩ := gd_some hf
  refine e_getR (r := s.2.2.2.2.1) fl_X6_33 dX6_servedBy_6 so_73 rfl (okX4_ne g1) (pc2 := 9) rfl ?_
  refine e_getI fl_X6_76 dX6_servedBy_9 (okX4_o g1) (by decide) (pc2 := 12) rfl ?_
  refine e_icmp_ge (tgt := 44) dX6_servedBy_12 (by decide) (pc2 := 15) rfl (fun c2 => ?_) (fun c2 => ?_)
  · have hf := if_t c2 hf
    refine e_iload_n dX6_servedBy_44 2 rfl rfl (pc2 := 45) rfl ?_
    cases hf
    exact e_iret rfl dX6_servedBy_45
  · have hf := if_f c2 hf
    refine e_aload_n dX6_servedBy_15 0 rfl rfl (pc2 := 16) rfl ?_
    refine e_getR (r := 77) fl_X6_21 dX6_servedBy_16 so_73 (rs_73_11 s.2.2) (by decide) (pc2 := 19) rfl ?_
    refine e_iload_n dX6_servedBy_19 3 rfl rfl (pc2 := 20) rfl ?_
    obtain ⟨g3, hf⟩ := gd_some hf
    refine e_iald dX6_servedBy_20 sa_77 (inb_v g3) (pc2 := 21) rfl ?_
    refine e_iconst (x := (-1)) dX6_servedBy_21 (by decide) (pc2 := 22) rfl ?_
    refine e_icmp_eq (tgt := 38) dX6_servedBy_22 (by decide) (pc2 := 25) rfl (fun c4 => ?_) (fun c4 => ?_)
    · have hf := if_t c4 hf
      obtain ⟨x5, ex5, hf⟩ := ltb_s hf
      refine e_iinc dX6_servedBy_38 3 rfl (c9 := 1) (by decide) ex5.symm (by decide) (ls' := [(0, .ref 73), (1, .int v1), (2, .int v2), (3, .int x5)]) [1, 2, 3, 0] rfl (pc2 := 41) rfl ?_
      refine e_goto (tgt := 4) dX6_servedBy_41 (by decide) ?_
      exact hk4 v2 x5 hf
    · have hf := if_f c4 hf
      refine e_aload_n dX6_servedBy_25 0 rfl rfl (pc2 := 26) rfl ?_
      refine e_getR (r := 77) fl_X6_21 dX6_servedBy_26 so_73 (rs_73_11 s.2.2) (by decide) (pc2 := 29) rfl ?_
      refine e_iload_n dX6_servedBy_29 3 rfl rfl (pc2 := 30) rfl ?_
      obtain ⟨g6, hf⟩ := gd_some hf
      refine e_iald dX6_servedBy_30 sa_77 (inb_v g6) (pc2 := 31) rfl ?_
      refine e_iload_n dX6_servedBy_31 1 rfl rfl (pc2 := 32) rfl ?_
      refine e_icmp_gt (tgt := 38) dX6_servedBy_32 (by decide) (pc2 := 35) rfl (fun c7 => ?_) (fun c7 => ?_)
      · have hf := if_t c7 hf
        obtain ⟨x8, ex8, hf⟩ := ltb_s hf
        refine e_iinc dX6_servedBy_38 3 rfl (c9 := 1) (by decide) ex8.symm (by decide) (ls' := [(0, .ref 73), (1, .int v1), (2, .int v2), (3, .int x8)]) [1, 2, 3, 0] rfl (pc2 := 41) rfl ?_
        refine e_goto (tgt := 4) dX6_servedBy_41 (by decide) ?_
        exact hk4 v2 x8 hf
      · have hf := if_f c7 hf
        obtain ⟨x9, ex9, hf⟩ := ltb_s hf
        refine e_iinc dX6_servedBy_35 2 rfl (c9 := 1) (by decide) ex9.symm (by decide) (ls' := [(0, .ref 73), (1, .int v1), (2, .int x9), (3, .int v3)]) [1, 2, 0, 3] rfl (pc2 := 38) rfl ?_
        obtain ⟨x10, ex10, hf⟩ := ltb_s hf
        refine e_iinc dX6_servedBy_38 3 rfl (c9 := 1) (by decide) ex10.symm (by decide) (ls' := [(0, .ref 73), (1, .int v1), (2, .int x9), (3, .int x10)]) [1, 2, 3, 0] rfl (pc2 := 41) rfl ?_
        refine e_goto (tgt := 4) dX6_servedBy_41 (by decide) ?_
        exact hk4 x9 x10 hf
def f_X6_servedBy_l4 (v1 : Int32) (s : HS) : Nat → Int32 → Int32 → Option Int32
  | 0, _, _ => none
  | n + 1, v2, v3 => f_X6_servedBy_l4b v1 v2 v3 (f_X6_servedBy_l4 v1 s n)  s
set_option maxRecDepth 20000 in
set_option maxHeartbeats 2000000 in
theorem t_X6_servedBy_l4 (v1 : Int32) (s : HS) {x : Int32}  : ∀ (n : Nat) (v2 : Int32) (v3 : Int32), f_X6_servedBy_l4 v1 s n v2 v3 = some x → Ev DDX6_servedBy miX6_servedBy NF (some (.int x)) NF (hp s) 4 NF [(0, .ref 73), (1, .int v1), (2, .int v2), (3, .int v3)] [] (hp s) := by
  intro n
  induction n with
  | zero =>
    intro v2 v3 hf
    have hf : none = some x := hf
    cases hf
  | succ n ih =>
    intro v2 v3 hf
    exact t_X6_servedBy_l4b v1 v2 v3  s _ ih  hf
def f_X6_servedBy (v1 : Int32) (s : HS) : Option Int32 :=
  f_X6_servedBy_l4 v1 s FU 0 0
set_option maxRecDepth 20000 in
set_option maxHeartbeats 2000000 in
theorem t_X6_servedBy (v1 : Int32) (s : HS) {x : Int32} (hf : f_X6_servedBy v1 s = some x) : Mt DDX6_servedBy miX6_servedBy [.ref 73, .int v1] NF (hp s) (some (.int x)) NF (hp s) := by
  refine Mt.of (by decide +kernel) (Nat.le_refl _) (Nat.le_of_ble_eq_true rfl) ?_
  show Ev DDX6_servedBy miX6_servedBy NF (some (.int x)) NF (hp s) 0 NF [(0, .ref 73), (1, .int v1)] [] (hp s)
  unfold f_X6_servedBy at hf
  refine e_iconst (x := 0) dX6_servedBy_0 (by decide) (pc2 := 1) rfl ?_
  refine e_istore_n dX6_servedBy_1 rfl (by decide) rfl (ls' := [(0, .ref 73), (1, .int v1), (2, .int 0)]) [1, 2, 0] rfl (pc2 := 2) rfl ?_
  refine e_iconst (x := 0) dX6_servedBy_2 (by decide) (pc2 := 3) rfl ?_
  refine e_istore_n dX6_servedBy_3 rfl (by decide) rfl (ls' := [(0, .ref 73), (1, .int v1), (2, .int 0), (3, .int 0)]) [1, 2, 3, 0] rfl (pc2 := 4) rfl ?_
  refine t_X6_servedBy_l4 v1 s FU 0 0 hf
abbrev DDX7_startWith : Nat := 1
def f_X7_startWith_l28b (v0 : Nat) (v1 : Nat) (v2 : Int32) (k28 : Int32 → HS → Option HS) (s : HS) : Option HS :=
  (if (s.1 v1 12) ≤ v2 then some s else gd (inb v2 5) (gd (inb v2 5) (ltb (sI s (Rf v0 4) (v2.toNatClampNeg) (s.1 (Rf (Rf v1 13) v2.toNatClampNeg) 4)) fun s7 => ltb (v2 + 1) fun x9 => k28 x9 s7)))
set_option maxRecDepth 20000 in
set_option maxHeartbeats 2000000 in
theorem t_X7_startWith_l28b (v0 : Nat) (v1 : Nat) (v2 : Int32) (hv0 : okX7 v0 = true) (hv1 : okX4 v1 = true) (s : HS) {t : HS} (k28 : Int32 → HS → Option HS) (hk28 : ∀ (a2 : Int32) (s : HS), k28 a2 s = some t → Ev DDX7_startWith miX7_startWith NF none NF (hp t) 28 NF [(0, .ref v0), (1, .ref v1), (2, .int a2)] [] (hp s)) (hf : f_X7_startWith_l28b v0 v1 v2 k28 s = some t) : Ev DDX7_startWith miX7_startWith NF none NF (hp t) 28 NF [(0, .ref v0), (1, .ref v1), (2, .int v2)] [] (hp s) := by
  refine e_iload_n dX7_startWith_28 2 rfl rfl (pc2 := 29) rfl ?_
  refine e_aload_n dX7_startWith_29 1 rfl rfl (pc2 := 30) rfl ?_
  refine e_getI fl_X7_41 dX7_startWith_30 (okX4_o hv1) (by decide) (pc2 := 33) rfl ?_
  refine e_icmp_ge (tgt := 57) dX7_startWith_33 (by decide) (pc2 := 36) rfl (fun c5 => ?_) (fun c5 => ?_)
  · have hf := if_t c5 hf
    cases hf
    exact e_vret rfl dX7_startWith_57
  · have hf := if_f c5 hf
    refine e_aload_n dX7_startWith_36 0 rfl rfl (pc2 := 37) rfl ?_
    refine e_getR (r := Rf v0 4) fl_X7_9 dX7_startWith_37 (okX7_o hv0) (okX7_R hv0) (isA_ne (okX7_hot hv0)) (pc2 := 40) rfl ?_
    refine e_iload_n dX7_startWith_40 2 rfl rfl (pc2 := 41) rfl ?_
    refine e_aload_n dX7_startWith_41 1 rfl rfl (pc2 := 42) rfl ?_
    refine e_getR (r := Rf v1 13) fl_X7_44 dX7_startWith_42 (okX4_o hv1) (okX4_R hv1) (isA_ne (okX4_thing hv1)) (pc2 := 45) rfl ?_
    refine e_iload_n dX7_startWith_45 2 rfl rfl (pc2 := 46) rfl ?_
    obtain ⟨g6, hf⟩ := gd_some hf
    refine e_aald (r := Rf (Rf v1 13) v2.toNatClampNeg) dX7_startWith_46 (okX4_thing hv1) (by decide) (inb_v g6) (Rs_na (q := s.2.2) (okX4_thing hv1) (by decide)) (okX9_ne (okX4_thing_el hv1 (inb_v g6))) (pc2 := 47) rfl ?_
    refine e_getI fl_X7_48 dX7_startWith_47 (okX9_o (okX4_thing_el hv1 (inb_v g6))) (by decide) (pc2 := 50) rfl ?_
    obtain ⟨g8, hf⟩ := gd_some hf
    obtain ⟨s7, es7, hf⟩ := ltb_s hf
    refine e_iast dX7_startWith_50 (okX7_hot hv0) (inb_v g8) (h2 := hp s7) (by rw [es7]; rfl) (pc2 := 51) rfl ?_
    obtain ⟨x9, ex9, hf⟩ := ltb_s hf
    refine e_iinc dX7_startWith_51 2 rfl (c9 := 1) (by decide) ex9.symm (by decide) (ls' := [(0, .ref v0), (1, .ref v1), (2, .int x9)]) [1, 2, 0] rfl (pc2 := 54) rfl ?_
    refine e_goto (tgt := 28) dX7_startWith_54 (by decide) ?_
    exact hk28 x9 s7 hf
def f_X7_startWith_l28 (v0 : Nat) (v1 : Nat) : Nat → Int32 → HS → Option HS
  | 0, _, _ => none
  | n + 1, v2, s => f_X7_startWith_l28b v0 v1 v2 (f_X7_startWith_l28 v0 v1 n)  s
set_option maxRecDepth 20000 in
set_option maxHeartbeats 2000000 in
theorem t_X7_startWith_l28 (v0 : Nat) (v1 : Nat) (hv0 : okX7 v0 = true) (hv1 : okX4 v1 = true) {t : HS}  : ∀ (n : Nat) (v2 : Int32) (s : HS), f_X7_startWith_l28 v0 v1 n v2 s = some t → Ev DDX7_startWith miX7_startWith NF none NF (hp t) 28 NF [(0, .ref v0), (1, .ref v1), (2, .int v2)] [] (hp s) := by
  intro n
  induction n with
  | zero =>
    intro v2 s hf
    have hf : none = some t := hf
    cases hf
  | succ n ih =>
    intro v2 s hf
    exact t_X7_startWith_l28b v0 v1 v2 hv0 hv1 s _ ih  hf
def f_X7_startWith (p : Nat) (v1 : Nat) (s : HS) : Option HS :=
  ltb (sI s p 0 0) fun s1 => ltb (sI s1 p 1 (s1.1 v1 1)) fun s2 => ltb (sI s2 p 2 0) fun s3 => ltb (sI s3 p 3 (s3.1 v1 2)) fun s4 => f_X7_startWith_l28 p v1 FU 0 s4
set_option maxRecDepth 20000 in
set_option maxHeartbeats 2000000 in
theorem t_X7_startWith (p : Nat) (hp_ : okX7 p = true) (v1 : Nat) (hv1 : okX4 v1 = true) (s : HS) {t : HS} (hf : f_X7_startWith p v1 s = some t) : Mt DDX7_startWith miX7_startWith [.ref p, .ref v1] NF (hp s) none NF (hp t) := by
  refine Mt.of (by decide +kernel) (Nat.le_refl _) (Nat.le_of_ble_eq_true rfl) ?_
  show Ev DDX7_startWith miX7_startWith NF none NF (hp t) 0 NF [(0, .ref p), (1, .ref v1)] [] (hp s)
  unfold f_X7_startWith at hf
  refine e_aload_n dX7_startWith_0 0 rfl rfl (pc2 := 1) rfl ?_
  refine e_iconst (x := 0) dX7_startWith_1 (by decide) (pc2 := 2) rfl ?_
  obtain ⟨s1, es1, hf⟩ := ltb_s hf
  refine e_putI fl_X7_24 dX7_startWith_2 (okX7_o hp_) fn_7_0 (h2 := hp s1) (by rw [es1]; rfl) (pc2 := 5) rfl ?_
  refine e_aload_n dX7_startWith_5 0 rfl rfl (pc2 := 6) rfl ?_
  refine e_aload_n dX7_startWith_6 1 rfl rfl (pc2 := 7) rfl ?_
  refine e_getI fl_X7_28 dX7_startWith_7 (okX4_o hv1) (by decide) (pc2 := 10) rfl ?_
  obtain ⟨s2, es2, hf⟩ := ltb_s hf
  refine e_putI fl_X7_33 dX7_startWith_10 (okX7_o hp_) fn_7_1 (h2 := hp s2) (by rw [es2]; rfl) (pc2 := 13) rfl ?_
  refine e_aload_n dX7_startWith_13 0 rfl rfl (pc2 := 14) rfl ?_
  refine e_iconst (x := 0) dX7_startWith_14 (by decide) (pc2 := 15) rfl ?_
  obtain ⟨s3, es3, hf⟩ := ltb_s hf
  refine e_putI fl_X7_34 dX7_startWith_15 (okX7_o hp_) fn_7_2 (h2 := hp s3) (by rw [es3]; rfl) (pc2 := 18) rfl ?_
  refine e_aload_n dX7_startWith_18 0 rfl rfl (pc2 := 19) rfl ?_
  refine e_aload_n dX7_startWith_19 1 rfl rfl (pc2 := 20) rfl ?_
  refine e_getI fl_X7_37 dX7_startWith_20 (okX4_o hv1) (by decide) (pc2 := 23) rfl ?_
  obtain ⟨s4, es4, hf⟩ := ltb_s hf
  refine e_putI fl_X7_40 dX7_startWith_23 (okX7_o hp_) fn_7_3 (h2 := hp s4) (by rw [es4]; rfl) (pc2 := 26) rfl ?_
  refine e_iconst (x := 0) dX7_startWith_26 (by decide) (pc2 := 27) rfl ?_
  refine e_istore_n dX7_startWith_27 rfl (by decide) rfl (ls' := [(0, .ref p), (1, .ref v1), (2, .int 0)]) [1, 2, 0] rfl (pc2 := 28) rfl ?_
  refine t_X7_startWith_l28 p v1 hp_ hv1 FU 0 s4 hf
abbrev DDX7_forget : Nat := 1
def f_X7_forget (p : Nat) (s : HS) : Option HS :=
  ltb (sI s p 6 0) fun s1 => ltb (sI s1 p 8 0) fun s2 => ltb (sI s2 p 10 0) fun s3 => some s3
set_option maxRecDepth 20000 in
set_option maxHeartbeats 2000000 in
theorem t_X7_forget (p : Nat) (hp_ : okX7 p = true) (s : HS) {t : HS} (hf : f_X7_forget p s = some t) : Mt DDX7_forget miX7_forget [.ref p] NF (hp s) none NF (hp t) := by
  refine Mt.of (by decide +kernel) (Nat.le_refl _) (Nat.le_of_ble_eq_true rfl) ?_
  show Ev DDX7_forget miX7_forget NF none NF (hp t) 0 NF [(0, .ref p)] [] (hp s)
  unfold f_X7_forget at hf
  refine e_aload_n dX7_forget_0 0 rfl rfl (pc2 := 1) rfl ?_
  refine e_iconst (x := 0) dX7_forget_1 (by decide) (pc2 := 2) rfl ?_
  obtain ⟨s1, es1, hf⟩ := ltb_s hf
  refine e_putI fl_X7_52 dX7_forget_2 (okX7_o hp_) fn_7_6 (h2 := hp s1) (by rw [es1]; rfl) (pc2 := 5) rfl ?_
  refine e_aload_n dX7_forget_5 0 rfl rfl (pc2 := 6) rfl ?_
  refine e_iconst (x := 0) dX7_forget_6 (by decide) (pc2 := 7) rfl ?_
  obtain ⟨s2, es2, hf⟩ := ltb_s hf
  refine e_putI fl_X7_55 dX7_forget_7 (okX7_o hp_) fn_7_8 (h2 := hp s2) (by rw [es2]; rfl) (pc2 := 10) rfl ?_
  refine e_aload_n dX7_forget_10 0 rfl rfl (pc2 := 11) rfl ?_
  refine e_iconst (x := 0) dX7_forget_11 (by decide) (pc2 := 12) rfl ?_
  obtain ⟨s3, es3, hf⟩ := ltb_s hf
  refine e_putI fl_X7_58 dX7_forget_12 (okX7_o hp_) fn_7_10 (h2 := hp s3) (by rw [es3]; rfl) (pc2 := 15) rfl ?_
  cases hf
  exact e_vret rfl dX7_forget_15
abbrev DDX7_takeLines : Nat := 1
def f_X7_takeLines (p : Nat) (v1 : Nat) (v2 : Int32) (s : HS) : Option HS :=
  gd (cpok 0 0 (v2 * 3) ((sk v1).2) 120) (ltb (sA s (Rf p 5) (va_cpy (s.1 v1) (s.1 (Rf p 5)) (0 : Int32).toNatClampNeg (0 : Int32).toNatClampNeg (v2 * 3 : Int32).toNatClampNeg)) fun s1 => ltb (sI s1 p 6 v2) fun s3 => some s3)
set_option maxRecDepth 20000 in
set_option maxHeartbeats 2000000 in
theorem t_X7_takeLines (p : Nat) (hp_ : okX7 p = true) (v1 : Nat) (hv1 : aok 1 v1 = true) (v2 : Int32) (s : HS) {t : HS} (hf : f_X7_takeLines p v1 v2 s = some t) : Mt DDX7_takeLines miX7_takeLines [.ref p, .ref v1, .int v2] NF (hp s) none NF (hp t) := by
  refine Mt.of (by decide +kernel) (Nat.le_refl _) (Nat.le_of_ble_eq_true rfl) ?_
  show Ev DDX7_takeLines miX7_takeLines NF none NF (hp t) 0 NF [(0, .ref p), (1, .ref v1), (2, .int v2)] [] (hp s)
  unfold f_X7_takeLines at hf
  refine e_aload_n dX7_takeLines_0 1 rfl rfl (pc2 := 1) rfl ?_
  refine e_iconst (x := 0) dX7_takeLines_1 (by decide) (pc2 := 2) rfl ?_
  refine e_aload_n dX7_takeLines_2 0 rfl rfl (pc2 := 3) rfl ?_
  refine e_getR (r := Rf p 5) fl_X7_15 dX7_takeLines_3 (okX7_o hp_) (okX7_R hp_) (isA_ne (okX7_lines hp_)) (pc2 := 6) rfl ?_
  refine e_iconst (x := 0) dX7_takeLines_6 (by decide) (pc2 := 7) rfl ?_
  refine e_iload_n dX7_takeLines_7 2 rfl rfl (pc2 := 8) rfl ?_
  refine e_iconst (x := 3) dX7_takeLines_8 (by decide) (pc2 := 9) rfl ?_
  refine e_imul dX7_takeLines_9 (pc2 := 10) rfl ?_
  obtain ⟨g2, hf⟩ := gd_some hf
  obtain ⟨s1, es1, hf⟩ := ltb_s hf
  refine e_acopy dX7_takeLines_10 mm_X7_61 (aok_a hv1) (okX7_lines hp_) (cp1 g2) (cp2 g2) (cp3 g2) (cp4 g2) (cp5 g2) (by decide) nn0 (by first | exact Nat.le_of_ble_eq_true rfl | simp [rva_cat, vc_i, vc_r, vc_l, vc_n]) (h2 := hp s1) (by rw [es1]; rfl) (pc2 := 13) rfl ?_
  refine e_aload_n dX7_takeLines_13 0 rfl rfl (pc2 := 14) rfl ?_
  refine e_iload_n dX7_takeLines_14 2 rfl rfl (pc2 := 15) rfl ?_
  obtain ⟨s3, es3, hf⟩ := ltb_s hf
  refine e_putI fl_X7_52 dX7_takeLines_15 (okX7_o hp_) fn_7_6 (h2 := hp s3) (by rw [es3]; rfl) (pc2 := 18) rfl ?_
  cases hf
  exact e_vret rfl dX7_takeLines_18
abbrev DDX7_copyHand : Nat := 1
def f_X7_copyHand (p : Nat) (v1 : Nat) (s : HS) : Option HS :=
  ltb (sI s p 0 (s.1 v1 0)) fun s1 => ltb (sI s1 p 1 (s1.1 v1 1)) fun s2 => ltb (sI s2 p 2 (s2.1 v1 2)) fun s3 => ltb (sI s3 p 3 (s3.1 v1 3)) fun s4 => gd (cpok 0 0 5 5 5) (ltb (sA s4 (Rf p 4) (va_cpy (s4.1 (Rf v1 4)) (s4.1 (Rf p 4)) (0 : Int32).toNatClampNeg (0 : Int32).toNatClampNeg (5 : Int32).toNatClampNeg)) fun s5 => some s5)
set_option maxRecDepth 20000 in
set_option maxHeartbeats 2000000 in
theorem t_X7_copyHand (p : Nat) (hp_ : okX7 p = true) (v1 : Nat) (hv1 : okX7 v1 = true) (s : HS) {t : HS} (hf : f_X7_copyHand p v1 s = some t) : Mt DDX7_copyHand miX7_copyHand [.ref p, .ref v1] NF (hp s) none NF (hp t) := by
  refine Mt.of (by decide +kernel) (Nat.le_refl _) (Nat.le_of_ble_eq_true rfl) ?_
  show Ev DDX7_copyHand miX7_copyHand NF none NF (hp t) 0 NF [(0, .ref p), (1, .ref v1)] [] (hp s)
  unfold f_X7_copyHand at hf
  refine e_aload_n dX7_copyHand_0 0 rfl rfl (pc2 := 1) rfl ?_
  refine e_aload_n dX7_copyHand_1 1 rfl rfl (pc2 := 2) rfl ?_
  refine e_getI fl_X7_24 dX7_copyHand_2 (okX7_o hv1) (by decide) (pc2 := 5) rfl ?_
  obtain ⟨s1, es1, hf⟩ := ltb_s hf
  refine e_putI fl_X7_24 dX7_copyHand_5 (okX7_o hp_) fn_7_0 (h2 := hp s1) (by rw [es1]; rfl) (pc2 := 8) rfl ?_
  refine e_aload_n dX7_copyHand_8 0 rfl rfl (pc2 := 9) rfl ?_
  refine e_aload_n dX7_copyHand_9 1 rfl rfl (pc2 := 10) rfl ?_
  refine e_getI fl_X7_33 dX7_copyHand_10 (okX7_o hv1) (by decide) (pc2 := 13) rfl ?_
  obtain ⟨s2, es2, hf⟩ := ltb_s hf
  refine e_putI fl_X7_33 dX7_copyHand_13 (okX7_o hp_) fn_7_1 (h2 := hp s2) (by rw [es2]; rfl) (pc2 := 16) rfl ?_
  refine e_aload_n dX7_copyHand_16 0 rfl rfl (pc2 := 17) rfl ?_
  refine e_aload_n dX7_copyHand_17 1 rfl rfl (pc2 := 18) rfl ?_
  refine e_getI fl_X7_34 dX7_copyHand_18 (okX7_o hv1) (by decide) (pc2 := 21) rfl ?_
  obtain ⟨s3, es3, hf⟩ := ltb_s hf
  refine e_putI fl_X7_34 dX7_copyHand_21 (okX7_o hp_) fn_7_2 (h2 := hp s3) (by rw [es3]; rfl) (pc2 := 24) rfl ?_
  refine e_aload_n dX7_copyHand_24 0 rfl rfl (pc2 := 25) rfl ?_
  refine e_aload_n dX7_copyHand_25 1 rfl rfl (pc2 := 26) rfl ?_
  refine e_getI fl_X7_40 dX7_copyHand_26 (okX7_o hv1) (by decide) (pc2 := 29) rfl ?_
  obtain ⟨s4, es4, hf⟩ := ltb_s hf
  refine e_putI fl_X7_40 dX7_copyHand_29 (okX7_o hp_) fn_7_3 (h2 := hp s4) (by rw [es4]; rfl) (pc2 := 32) rfl ?_
  refine e_aload_n dX7_copyHand_32 1 rfl rfl (pc2 := 33) rfl ?_
  refine e_getR (r := Rf v1 4) fl_X7_9 dX7_copyHand_33 (okX7_o hv1) (okX7_R hv1) (isA_ne (okX7_hot hv1)) (pc2 := 36) rfl ?_
  refine e_iconst (x := 0) dX7_copyHand_36 (by decide) (pc2 := 37) rfl ?_
  refine e_aload_n dX7_copyHand_37 0 rfl rfl (pc2 := 38) rfl ?_
  refine e_getR (r := Rf p 4) fl_X7_9 dX7_copyHand_38 (okX7_o hp_) (okX7_R hp_) (isA_ne (okX7_hot hp_)) (pc2 := 41) rfl ?_
  refine e_iconst (x := 0) dX7_copyHand_41 (by decide) (pc2 := 42) rfl ?_
  refine e_aload_n dX7_copyHand_42 0 rfl rfl (pc2 := 43) rfl ?_
  refine e_getR (r := Rf p 4) fl_X7_9 dX7_copyHand_43 (okX7_o hp_) (okX7_R hp_) (isA_ne (okX7_hot hp_)) (pc2 := 46) rfl ?_
  refine e_alen (x := 5) dX7_copyHand_46 (okX7_hot hp_) (by decide) (by decide) (pc2 := 47) rfl ?_
  obtain ⟨g6, hf⟩ := gd_some hf
  obtain ⟨s5, es5, hf⟩ := ltb_s hf
  refine e_acopy dX7_copyHand_47 mm_X7_61 (okX7_hot hv1) (okX7_hot hp_) (cp1 g6) (cp2 g6) (cp3 g6) (cp4 g6) (cp5 g6) (by decide) nn0 (by first | exact Nat.le_of_ble_eq_true rfl | simp [rva_cat, vc_i, vc_r, vc_l, vc_n]) (h2 := hp s5) (by rw [es5]; rfl) (pc2 := 50) rfl ?_
  cases hf
  exact e_vret rfl dX7_copyHand_50
abbrev DDX7_copyAll : Nat := 2
def f_X7_copyAll (p : Nat) (v1 : Nat) (s : HS) : Option HS :=
  bnd (f_X7_copyHand p v1 s) fun s2 => bnd (f_X7_takeLines p (Rf v1 5) (s2.1 v1 6) s2) fun s4 => gd (cpok 0 0 20 20 20) (ltb (sA s4 (Rf p 7) (va_cpy (s4.1 (Rf v1 7)) (s4.1 (Rf p 7)) (0 : Int32).toNatClampNeg (0 : Int32).toNatClampNeg (20 : Int32).toNatClampNeg)) fun s5 => ltb (sI s5 p 8 (s5.1 v1 8)) fun s7 => gd (cpok 0 0 12 12 12) (ltb (sA s7 (Rf p 9) (va_cpy (s7.1 (Rf v1 9)) (s7.1 (Rf p 9)) (0 : Int32).toNatClampNeg (0 : Int32).toNatClampNeg (12 : Int32).toNatClampNeg)) fun s8 => ltb (sI s8 p 10 (s8.1 v1 10)) fun s10 => some s10))
set_option maxRecDepth 20000 in
set_option maxHeartbeats 2000000 in
theorem t_X7_copyAll (p : Nat) (hp_ : okX7 p = true) (v1 : Nat) (hv1 : okX7 v1 = true) (s : HS) {t : HS} (hf : f_X7_copyAll p v1 s = some t) : Mt DDX7_copyAll miX7_copyAll [.ref p, .ref v1] NF (hp s) none NF (hp t) := by
  refine Mt.of (by decide +kernel) (Nat.le_refl _) (Nat.le_of_ble_eq_true rfl) ?_
  show Ev DDX7_copyAll miX7_copyAll NF none NF (hp t) 0 NF [(0, .ref p), (1, .ref v1)] [] (hp s)
  unfold f_X7_copyAll at hf
  refine e_aload_n dX7_copyAll_0 0 rfl rfl (pc2 := 1) rfl ?_
  refine e_aload_n dX7_copyAll_1 1 rfl rfl (pc2 := 2) rfl ?_
  obtain ⟨s2, hy1, hf⟩ := bnd_s hf
  refine e_callVn (t_X7_copyHand p hp_ v1 hv1 s hy1) dX7_copyAll_2 cv_X7_67 rfl (okX7_o hp_) rc_7 (by decide) (by first | exact Nat.le_of_ble_eq_true rfl | simp [rva_cat, vc_i, vc_r, vc_l, vc_n]) nn0 rfl (pc2 := 5) rfl ?_
  refine e_aload_n dX7_copyAll_5 0 rfl rfl (pc2 := 6) rfl ?_
  refine e_aload_n dX7_copyAll_6 1 rfl rfl (pc2 := 7) rfl ?_
  refine e_getR (r := Rf v1 5) fl_X7_15 dX7_copyAll_7 (okX7_o hv1) (okX7_R hv1) (isA_ne (okX7_lines hv1)) (pc2 := 10) rfl ?_
  refine e_aload_n dX7_copyAll_10 1 rfl rfl (pc2 := 11) rfl ?_
  refine e_getI fl_X7_52 dX7_copyAll_11 (okX7_o hv1) (by decide) (pc2 := 14) rfl ?_
  obtain ⟨s4, hy3, hf⟩ := bnd_s hf
  refine e_callVn (t_X7_takeLines p hp_ (Rf v1 5) (aok_of (okX7_lines hv1)) (s2.1 v1 6) s2 hy3) dX7_copyAll_14 cv_X7_71 rfl (okX7_o hp_) rc_7 (by decide) (by first | exact Nat.le_of_ble_eq_true rfl | simp [rva_cat, vc_i, vc_r, vc_l, vc_n]) nn0 rfl (pc2 := 17) rfl ?_
  refine e_aload_n dX7_copyAll_17 1 rfl rfl (pc2 := 18) rfl ?_
  refine e_getR (r := Rf v1 7) fl_X7_18 dX7_copyAll_18 (okX7_o hv1) (okX7_R hv1) (isA_ne (okX7_sold hv1)) (pc2 := 21) rfl ?_
  refine e_iconst (x := 0) dX7_copyAll_21 (by decide) (pc2 := 22) rfl ?_
  refine e_aload_n dX7_copyAll_22 0 rfl rfl (pc2 := 23) rfl ?_
  refine e_getR (r := Rf p 7) fl_X7_18 dX7_copyAll_23 (okX7_o hp_) (okX7_R hp_) (isA_ne (okX7_sold hp_)) (pc2 := 26) rfl ?_
  refine e_iconst (x := 0) dX7_copyAll_26 (by decide) (pc2 := 27) rfl ?_
  refine e_aload_n dX7_copyAll_27 0 rfl rfl (pc2 := 28) rfl ?_
  refine e_getR (r := Rf p 7) fl_X7_18 dX7_copyAll_28 (okX7_o hp_) (okX7_R hp_) (isA_ne (okX7_sold hp_)) (pc2 := 31) rfl ?_
  refine e_alen (x := 20) dX7_copyAll_31 (okX7_sold hp_) (by decide) (by decide) (pc2 := 32) rfl ?_
  obtain ⟨g6, hf⟩ := gd_some hf
  obtain ⟨s5, es5, hf⟩ := ltb_s hf
  refine e_acopy dX7_copyAll_32 mm_X7_61 (okX7_sold hv1) (okX7_sold hp_) (cp1 g6) (cp2 g6) (cp3 g6) (cp4 g6) (cp5 g6) (by decide) nn0 (by first | exact Nat.le_of_ble_eq_true rfl | simp [rva_cat, vc_i, vc_r, vc_l, vc_n]) (h2 := hp s5) (by rw [es5]; rfl) (pc2 := 35) rfl ?_
  refine e_aload_n dX7_copyAll_35 0 rfl rfl (pc2 := 36) rfl ?_
  refine e_aload_n dX7_copyAll_36 1 rfl rfl (pc2 := 37) rfl ?_
  refine e_getI fl_X7_55 dX7_copyAll_37 (okX7_o hv1) (by decide) (pc2 := 40) rfl ?_
  obtain ⟨s7, es7, hf⟩ := ltb_s hf
  refine e_putI fl_X7_55 dX7_copyAll_40 (okX7_o hp_) fn_7_8 (h2 := hp s7) (by rw [es7]; rfl) (pc2 := 43) rfl ?_
  refine e_aload_n dX7_copyAll_43 1 rfl rfl (pc2 := 44) rfl ?_
  refine e_getR (r := Rf v1 9) fl_X7_21 dX7_copyAll_44 (okX7_o hv1) (okX7_R hv1) (isA_ne (okX7_seen hv1)) (pc2 := 47) rfl ?_
  refine e_iconst (x := 0) dX7_copyAll_47 (by decide) (pc2 := 48) rfl ?_
  refine e_aload_n dX7_copyAll_48 0 rfl rfl (pc2 := 49) rfl ?_
  refine e_getR (r := Rf p 9) fl_X7_21 dX7_copyAll_49 (okX7_o hp_) (okX7_R hp_) (isA_ne (okX7_seen hp_)) (pc2 := 52) rfl ?_
  refine e_iconst (x := 0) dX7_copyAll_52 (by decide) (pc2 := 53) rfl ?_
  refine e_aload_n dX7_copyAll_53 0 rfl rfl (pc2 := 54) rfl ?_
  refine e_getR (r := Rf p 9) fl_X7_21 dX7_copyAll_54 (okX7_o hp_) (okX7_R hp_) (isA_ne (okX7_seen hp_)) (pc2 := 57) rfl ?_
  refine e_alen (x := 12) dX7_copyAll_57 (okX7_seen hp_) (by decide) (by decide) (pc2 := 58) rfl ?_
  obtain ⟨g9, hf⟩ := gd_some hf
  obtain ⟨s8, es8, hf⟩ := ltb_s hf
  refine e_acopy dX7_copyAll_58 mm_X7_61 (okX7_seen hv1) (okX7_seen hp_) (cp1 g9) (cp2 g9) (cp3 g9) (cp4 g9) (cp5 g9) (by decide) nn0 (by first | exact Nat.le_of_ble_eq_true rfl | simp [rva_cat, vc_i, vc_r, vc_l, vc_n]) (h2 := hp s8) (by rw [es8]; rfl) (pc2 := 61) rfl ?_
  refine e_aload_n dX7_copyAll_61 0 rfl rfl (pc2 := 62) rfl ?_
  refine e_aload_n dX7_copyAll_62 1 rfl rfl (pc2 := 63) rfl ?_
  refine e_getI fl_X7_58 dX7_copyAll_63 (okX7_o hv1) (by decide) (pc2 := 66) rfl ?_
  obtain ⟨s10, es10, hf⟩ := ltb_s hf
  refine e_putI fl_X7_58 dX7_copyAll_66 (okX7_o hp_) fn_7_10 (h2 := hp s10) (by rw [es10]; rfl) (pc2 := 69) rfl ?_
  cases hf
  exact e_vret rfl dX7_copyAll_69
abbrev DDX7_valueOf : Nat := 1
def f_X7_valueOf (p : Nat) (v1 : Nat) (v2 : Int32) (v3 : Int32) (s : HS) : Option Int32 :=
  (if v2 = 0 then some (s.1 p 1) else if v2 = 1 then some (s.1 p 2) else if v2 = 2 then some (s.1 p 3) else if v2 = 3 then (if v3 < 0 then some (-1) else (if (s.1 v1 14) ≤ v3 then some (-1) else some (((s.1 p 0) >>> (v3 &&& 31)) &&& (1 : Int32)))) else if v2 = 4 then (if v3 < 0 then some (-1) else (if (s.1 v1 12) ≤ v3 then some (-1) else gd (inb v3 5) (some (s.1 (Rf p 4) v3.toNatClampNeg)))) else some (-1))
set_option maxRecDepth 20000 in
set_option maxHeartbeats 2000000 in
theorem t_X7_valueOf (p : Nat) (hp_ : okX7 p = true) (v1 : Nat) (hv1 : okX4 v1 = true) (v2 : Int32) (v3 : Int32) (s : HS) {x : Int32} (hf : f_X7_valueOf p v1 v2 v3 s = some x) : Mt DDX7_valueOf miX7_valueOf [.ref p, .ref v1, .int v2, .int v3] NF (hp s) (some (.int x)) NF (hp s) := by
  refine Mt.of (by decide +kernel) (Nat.le_refl _) (Nat.le_of_ble_eq_true rfl) ?_
  show Ev DDX7_valueOf miX7_valueOf NF (some (.int x)) NF (hp s) 0 NF [(0, .ref p), (1, .ref v1), (2, .int v2), (3, .int v3)] [] (hp s)
  unfold f_X7_valueOf at hf
  refine e_iload_n dX7_valueOf_0 2 rfl rfl (pc2 := 1) rfl ?_
  by_cases c1 : v2 = 0
  · have hf := if_t c1 hf
    rw [c1]
    refine e_tableIn (tgt := 36) dX7_valueOf_1 (by decide) (by decide) rfl (by decide) ?_
    refine e_aload_n dX7_valueOf_36 0 rfl rfl (pc2 := 37) rfl ?_
    refine e_getI fl_X7_33 dX7_valueOf_37 (okX7_o hp_) (by decide) (pc2 := 40) rfl ?_
    cases hf
    exact e_iret rfl dX7_valueOf_40
  have hf := if_f c1 hf
  by_cases c2 : v2 = 1
  · have hf := if_t c2 hf
    rw [c2]
    refine e_tableIn (tgt := 41) dX7_valueOf_1 (by decide) (by decide) rfl (by decide) ?_
    refine e_aload_n dX7_valueOf_41 0 rfl rfl (pc2 := 42) rfl ?_
    refine e_getI fl_X7_34 dX7_valueOf_42 (okX7_o hp_) (by decide) (pc2 := 45) rfl ?_
    cases hf
    exact e_iret rfl dX7_valueOf_45
  have hf := if_f c2 hf
  by_cases c3 : v2 = 2
  · have hf := if_t c3 hf
    rw [c3]
    refine e_tableIn (tgt := 46) dX7_valueOf_1 (by decide) (by decide) rfl (by decide) ?_
    refine e_aload_n dX7_valueOf_46 0 rfl rfl (pc2 := 47) rfl ?_
    refine e_getI fl_X7_40 dX7_valueOf_47 (okX7_o hp_) (by decide) (pc2 := 50) rfl ?_
    cases hf
    exact e_iret rfl dX7_valueOf_50
  have hf := if_f c3 hf
  by_cases c4 : v2 = 3
  · have hf := if_t c4 hf
    rw [c4]
    refine e_tableIn (tgt := 51) dX7_valueOf_1 (by decide) (by decide) rfl (by decide) ?_
    refine e_iload_n dX7_valueOf_51 3 rfl rfl (pc2 := 52) rfl ?_
    refine e_if_lt (tgt := 74) dX7_valueOf_52 (by decide) (pc2 := 55) rfl (fun c5 => ?_) (fun c5 => ?_)
    · have hf := if_t c5 hf
      refine e_iconst (x := (-1)) dX7_valueOf_74 (by decide) (pc2 := 75) rfl ?_
      cases hf
      exact e_iret rfl dX7_valueOf_75
    · have hf := if_f c5 hf
      refine e_iload_n dX7_valueOf_55 3 rfl rfl (pc2 := 56) rfl ?_
      refine e_aload_n dX7_valueOf_56 1 rfl rfl (pc2 := 57) rfl ?_
      refine e_getI fl_X7_75 dX7_valueOf_57 (okX4_o hv1) (by decide) (pc2 := 60) rfl ?_
      refine e_icmp_ge (tgt := 74) dX7_valueOf_60 (by decide) (pc2 := 63) rfl (fun c6 => ?_) (fun c6 => ?_)
      · have hf := if_t c6 hf
        refine e_iconst (x := (-1)) dX7_valueOf_74 (by decide) (pc2 := 75) rfl ?_
        cases hf
        exact e_iret rfl dX7_valueOf_75
      · have hf := if_f c6 hf
        refine e_aload_n dX7_valueOf_63 0 rfl rfl (pc2 := 64) rfl ?_
        refine e_getI fl_X7_24 dX7_valueOf_64 (okX7_o hp_) (by decide) (pc2 := 67) rfl ?_
        refine e_iload_n dX7_valueOf_67 3 rfl rfl (pc2 := 68) rfl ?_
        refine e_ishr dX7_valueOf_68 (pc2 := 69) rfl ?_
        refine e_iconst (x := 1) dX7_valueOf_69 (by decide) (pc2 := 70) rfl ?_
        refine e_iand dX7_valueOf_70 (pc2 := 71) rfl ?_
        refine e_goto (tgt := 75) dX7_valueOf_71 (by decide) ?_
        cases hf
        exact e_iret rfl dX7_valueOf_75
  have hf := if_f c4 hf
  by_cases c7 : v2 = 4
  · have hf := if_t c7 hf
    rw [c7]
    refine e_tableIn (tgt := 76) dX7_valueOf_1 (by decide) (by decide) rfl (by decide) ?_
    refine e_iload_n dX7_valueOf_76 3 rfl rfl (pc2 := 77) rfl ?_
    refine e_if_lt (tgt := 97) dX7_valueOf_77 (by decide) (pc2 := 80) rfl (fun c8 => ?_) (fun c8 => ?_)
    · have hf := if_t c8 hf
      refine e_iconst (x := (-1)) dX7_valueOf_97 (by decide) (pc2 := 98) rfl ?_
      cases hf
      exact e_iret rfl dX7_valueOf_98
    · have hf := if_f c8 hf
      refine e_iload_n dX7_valueOf_80 3 rfl rfl (pc2 := 81) rfl ?_
      refine e_aload_n dX7_valueOf_81 1 rfl rfl (pc2 := 82) rfl ?_
      refine e_getI fl_X7_41 dX7_valueOf_82 (okX4_o hv1) (by decide) (pc2 := 85) rfl ?_
      refine e_icmp_ge (tgt := 97) dX7_valueOf_85 (by decide) (pc2 := 88) rfl (fun c9 => ?_) (fun c9 => ?_)
      · have hf := if_t c9 hf
        refine e_iconst (x := (-1)) dX7_valueOf_97 (by decide) (pc2 := 98) rfl ?_
        cases hf
        exact e_iret rfl dX7_valueOf_98
      · have hf := if_f c9 hf
        refine e_aload_n dX7_valueOf_88 0 rfl rfl (pc2 := 89) rfl ?_
        refine e_getR (r := Rf p 4) fl_X7_9 dX7_valueOf_89 (okX7_o hp_) (okX7_R hp_) (isA_ne (okX7_hot hp_)) (pc2 := 92) rfl ?_
        refine e_iload_n dX7_valueOf_92 3 rfl rfl (pc2 := 93) rfl ?_
        obtain ⟨g10, hf⟩ := gd_some hf
        refine e_iald dX7_valueOf_93 (okX7_hot hp_) (inb_v g10) (pc2 := 94) rfl ?_
        refine e_goto (tgt := 98) dX7_valueOf_94 (by decide) ?_
        cases hf
        exact e_iret rfl dX7_valueOf_98
  have hf := if_f c7 hf
  refine e_tableOut (tgt := 99) dX7_valueOf_1 ?_ (by decide) ?_
  · have q0 := lv_neT (a := 0) c1 (by decide)
    have q1 := lv_neT (a := 1) c2 (by decide)
    have q2 := lv_neT (a := 2) c3 (by decide)
    have q3 := lv_neT (a := 3) c4 (by decide)
    have q4 := lv_neT (a := 4) c7 (by decide)
    omega
  refine e_iconst (x := (-1)) dX7_valueOf_99 (by decide) (pc2 := 100) rfl ?_
  cases hf
  exact e_iret rfl dX7_valueOf_100
abbrev DDX7_isAllowed : Nat := 1
def f_X7_isAllowed (v0 : Nat) (v1 : Int32) (v2 : Int32) (s : HS) : Int32 :=
  (if v1 = 0 then (if v2 < 1 then 0 else (if (s.1 v0 0) < v2 then 0 else 1)) else if v1 = 1 then (if v2 < 0 then 0 else (if 200 < v2 then 0 else 1)) else if v1 = 2 then (if v2 < 1 then 0 else (if 2 < v2 then 0 else 1)) else if v1 = 3 then (if v2 = 0 then 1 else (if v2 = 1 then 1 else 0)) else (if v2 < 0 then 0 else (if 99 < v2 then 0 else 1)))
set_option maxRecDepth 20000 in
set_option maxHeartbeats 2000000 in
theorem t_X7_isAllowed (v0 : Nat) (hv0 : okX4 v0 = true) (v1 : Int32) (v2 : Int32) (s : HS) {x : Int32} (hf : f_X7_isAllowed v0 v1 v2 s = x) : Mt DDX7_isAllowed miX7_isAllowed [.ref v0, .int v1, .int v2] NF (hp s) (some (.int x)) NF (hp s) := by
  refine Mt.of (by decide +kernel) (Nat.le_refl _) (Nat.le_of_ble_eq_true rfl) ?_
  show Ev DDX7_isAllowed miX7_isAllowed NF (some (.int x)) NF (hp s) 0 NF [(0, .ref v0), (1, .int v1), (2, .int v2)] [] (hp s)
  unfold f_X7_isAllowed at hf
  refine e_iload_n dX7_isAllowed_0 1 rfl rfl (pc2 := 1) rfl ?_
  by_cases c1 : v1 = 0
  · have hf := if_t c1 hf
    rw [c1]
    refine e_tableIn (tgt := 32) dX7_isAllowed_1 (by decide) (by decide) rfl (by decide) ?_
    refine e_iload_n dX7_isAllowed_32 2 rfl rfl (pc2 := 33) rfl ?_
    refine e_iconst (x := 1) dX7_isAllowed_33 (by decide) (pc2 := 34) rfl ?_
    refine e_icmp_lt (tgt := 49) dX7_isAllowed_34 (by decide) (pc2 := 37) rfl (fun c2 => ?_) (fun c2 => ?_)
    · have hf := if_t c2 hf
      refine e_iconst (x := 0) dX7_isAllowed_49 (by decide) (pc2 := 50) rfl ?_
      cases hf
      exact e_zret (by decide) rfl dX7_isAllowed_50
    · have hf := if_f c2 hf
      refine e_iload_n dX7_isAllowed_37 2 rfl rfl (pc2 := 38) rfl ?_
      refine e_aload_n dX7_isAllowed_38 0 rfl rfl (pc2 := 39) rfl ?_
      refine e_getI fl_X7_86 dX7_isAllowed_39 (okX4_o hv0) (by decide) (pc2 := 42) rfl ?_
      refine e_icmp_gt (tgt := 49) dX7_isAllowed_42 (by decide) (pc2 := 45) rfl (fun c3 => ?_) (fun c3 => ?_)
      · have hf := if_t c3 hf
        refine e_iconst (x := 0) dX7_isAllowed_49 (by decide) (pc2 := 50) rfl ?_
        cases hf
        exact e_zret (by decide) rfl dX7_isAllowed_50
      · have hf := if_f c3 hf
        refine e_iconst (x := 1) dX7_isAllowed_45 (by decide) (pc2 := 46) rfl ?_
        refine e_goto (tgt := 50) dX7_isAllowed_46 (by decide) ?_
        cases hf
        exact e_zret (by decide) rfl dX7_isAllowed_50
  have hf := if_f c1 hf
  by_cases c4 : v1 = 1
  · have hf := if_t c4 hf
    rw [c4]
    refine e_tableIn (tgt := 51) dX7_isAllowed_1 (by decide) (by decide) rfl (by decide) ?_
    refine e_iload_n dX7_isAllowed_51 2 rfl rfl (pc2 := 52) rfl ?_
    refine e_if_lt (tgt := 66) dX7_isAllowed_52 (by decide) (pc2 := 55) rfl (fun c5 => ?_) (fun c5 => ?_)
    · have hf := if_t c5 hf
      refine e_iconst (x := 0) dX7_isAllowed_66 (by decide) (pc2 := 67) rfl ?_
      cases hf
      exact e_zret (by decide) rfl dX7_isAllowed_67
    · have hf := if_f c5 hf
      refine e_iload_n dX7_isAllowed_55 2 rfl rfl (pc2 := 56) rfl ?_
      refine e_sipush (x := 200) dX7_isAllowed_56 (by decide) (pc2 := 59) rfl ?_
      refine e_icmp_gt (tgt := 66) dX7_isAllowed_59 (by decide) (pc2 := 62) rfl (fun c6 => ?_) (fun c6 => ?_)
      · have hf := if_t c6 hf
        refine e_iconst (x := 0) dX7_isAllowed_66 (by decide) (pc2 := 67) rfl ?_
        cases hf
        exact e_zret (by decide) rfl dX7_isAllowed_67
      · have hf := if_f c6 hf
        refine e_iconst (x := 1) dX7_isAllowed_62 (by decide) (pc2 := 63) rfl ?_
        refine e_goto (tgt := 67) dX7_isAllowed_63 (by decide) ?_
        cases hf
        exact e_zret (by decide) rfl dX7_isAllowed_67
  have hf := if_f c4 hf
  by_cases c7 : v1 = 2
  · have hf := if_t c7 hf
    rw [c7]
    refine e_tableIn (tgt := 68) dX7_isAllowed_1 (by decide) (by decide) rfl (by decide) ?_
    refine e_iload_n dX7_isAllowed_68 2 rfl rfl (pc2 := 69) rfl ?_
    refine e_iconst (x := 1) dX7_isAllowed_69 (by decide) (pc2 := 70) rfl ?_
    refine e_icmp_lt (tgt := 82) dX7_isAllowed_70 (by decide) (pc2 := 73) rfl (fun c8 => ?_) (fun c8 => ?_)
    · have hf := if_t c8 hf
      refine e_iconst (x := 0) dX7_isAllowed_82 (by decide) (pc2 := 83) rfl ?_
      cases hf
      exact e_zret (by decide) rfl dX7_isAllowed_83
    · have hf := if_f c8 hf
      refine e_iload_n dX7_isAllowed_73 2 rfl rfl (pc2 := 74) rfl ?_
      refine e_iconst (x := 2) dX7_isAllowed_74 (by decide) (pc2 := 75) rfl ?_
      refine e_icmp_gt (tgt := 82) dX7_isAllowed_75 (by decide) (pc2 := 78) rfl (fun c9 => ?_) (fun c9 => ?_)
      · have hf := if_t c9 hf
        refine e_iconst (x := 0) dX7_isAllowed_82 (by decide) (pc2 := 83) rfl ?_
        cases hf
        exact e_zret (by decide) rfl dX7_isAllowed_83
      · have hf := if_f c9 hf
        refine e_iconst (x := 1) dX7_isAllowed_78 (by decide) (pc2 := 79) rfl ?_
        refine e_goto (tgt := 83) dX7_isAllowed_79 (by decide) ?_
        cases hf
        exact e_zret (by decide) rfl dX7_isAllowed_83
  have hf := if_f c7 hf
  by_cases c10 : v1 = 3
  · have hf := if_t c10 hf
    rw [c10]
    refine e_tableIn (tgt := 84) dX7_isAllowed_1 (by decide) (by decide) rfl (by decide) ?_
    refine e_iload_n dX7_isAllowed_84 2 rfl rfl (pc2 := 85) rfl ?_
    refine e_if_eq (tgt := 93) dX7_isAllowed_85 (by decide) (pc2 := 88) rfl (fun c11 => ?_) (fun c11 => ?_)
    · have hf := if_t c11 hf
      refine e_iconst (x := 1) dX7_isAllowed_93 (by decide) (pc2 := 94) rfl ?_
      refine e_goto (tgt := 98) dX7_isAllowed_94 (by decide) ?_
      cases hf
      exact e_zret (by decide) rfl dX7_isAllowed_98
    · have hf := if_f c11 hf
      refine e_iload_n dX7_isAllowed_88 2 rfl rfl (pc2 := 89) rfl ?_
      refine e_iconst (x := 1) dX7_isAllowed_89 (by decide) (pc2 := 90) rfl ?_
      refine e_icmp_ne (tgt := 97) dX7_isAllowed_90 (by decide) (pc2 := 93) rfl (fun c12 => ?_) (fun c12 => ?_)
      · have hf := if_f c12 hf
        refine e_iconst (x := 0) dX7_isAllowed_97 (by decide) (pc2 := 98) rfl ?_
        cases hf
        exact e_zret (by decide) rfl dX7_isAllowed_98
      · have hf := if_t c12 hf
        refine e_iconst (x := 1) dX7_isAllowed_93 (by decide) (pc2 := 94) rfl ?_
        refine e_goto (tgt := 98) dX7_isAllowed_94 (by decide) ?_
        cases hf
        exact e_zret (by decide) rfl dX7_isAllowed_98
  have hf := if_f c10 hf
  refine e_tableOut (tgt := 99) dX7_isAllowed_1 ?_ (by decide) ?_
  · have q0 := lv_neT (a := 0) c1 (by decide)
    have q1 := lv_neT (a := 1) c4 (by decide)
    have q2 := lv_neT (a := 2) c7 (by decide)
    have q3 := lv_neT (a := 3) c10 (by decide)
    omega
  refine e_iload_n dX7_isAllowed_99 2 rfl rfl (pc2 := 100) rfl ?_
  refine e_if_lt (tgt := 113) dX7_isAllowed_100 (by decide) (pc2 := 103) rfl (fun c13 => ?_) (fun c13 => ?_)
  · have hf := if_t c13 hf
    refine e_iconst (x := 0) dX7_isAllowed_113 (by decide) (pc2 := 114) rfl ?_
    cases hf
    exact e_zret (by decide) rfl dX7_isAllowed_114
  · have hf := if_f c13 hf
    refine e_iload_n dX7_isAllowed_103 2 rfl rfl (pc2 := 104) rfl ?_
    refine e_bipush (x := 99) dX7_isAllowed_104 (by decide) (pc2 := 106) rfl ?_
    refine e_icmp_gt (tgt := 113) dX7_isAllowed_106 (by decide) (pc2 := 109) rfl (fun c14 => ?_) (fun c14 => ?_)
    · have hf := if_t c14 hf
      refine e_iconst (x := 0) dX7_isAllowed_113 (by decide) (pc2 := 114) rfl ?_
      cases hf
      exact e_zret (by decide) rfl dX7_isAllowed_114
    · have hf := if_f c14 hf
      refine e_iconst (x := 1) dX7_isAllowed_109 (by decide) (pc2 := 110) rfl ?_
      refine e_goto (tgt := 114) dX7_isAllowed_110 (by decide) ?_
      cases hf
      exact e_zret (by decide) rfl dX7_isAllowed_114
abbrev DDX7_change : Nat := 2
def f_X7_change (p : Nat) (v1 : Nat) (v2 : Int32) (v3 : Int32) (v4 : Int32) (s : HS) : Option (Int32 × HS) :=
  bnd (f_X7_valueOf p v1 v2 v3 s) fun y1 => (if y1 = (-1) then some (0, s) else (if y1 = v4 then some (0, s) else (if (f_X7_isAllowed v1 v2 v4 s) = 0 then some (0, s) else (if v2 = 0 then ltb (sI s p 1 v4) fun s6 => some (1, s6) else if v2 = 1 then ltb (sI s p 2 v4) fun s8 => some (1, s8) else if v2 = 2 then ltb (sI s p 3 v4) fun s10 => some (1, s10) else if v2 = 3 then ltb (sI s p 0 ((s.1 p 0) ^^^ ((1 : Int32) <<< (v3 &&& 31)))) fun s12 => some (1, s12) else gd (inb v3 5) (ltb (sI s (Rf p 4) (v3.toNatClampNeg) v4) fun s13 => some (1, s13))))))
set_option maxRecDepth 20000 in
set_option maxHeartbeats 2000000 in
theorem t_X7_change (p : Nat) (hp_ : okX7 p = true) (v1 : Nat) (hv1 : okX4 v1 = true) (v2 : Int32) (v3 : Int32) (v4 : Int32) (s : HS) {x : Int32} {t : HS} (hf : f_X7_change p v1 v2 v3 v4 s = some (x, t)) : Mt DDX7_change miX7_change [.ref p, .ref v1, .int v2, .int v3, .int v4] NF (hp s) (some (.int x)) NF (hp t) := by
  refine Mt.of (by decide +kernel) (Nat.le_refl _) (Nat.le_of_ble_eq_true rfl) ?_
  show Ev DDX7_change miX7_change NF (some (.int x)) NF (hp t) 0 NF [(0, .ref p), (1, .ref v1), (2, .int v2), (3, .int v3), (4, .int v4)] [] (hp s)
  unfold f_X7_change at hf
  refine e_aload_n dX7_change_0 0 rfl rfl (pc2 := 1) rfl ?_
  refine e_aload_n dX7_change_1 1 rfl rfl (pc2 := 2) rfl ?_
  refine e_iload_n dX7_change_2 2 rfl rfl (pc2 := 3) rfl ?_
  refine e_iload_n dX7_change_3 3 rfl rfl (pc2 := 4) rfl ?_
  obtain ⟨y1, hy1, hf⟩ := bnd_s hf
  refine e_callVs (t_X7_valueOf p hp_ v1 hv1 v2 v3 s hy1) dX7_change_4 cv_X7_78 rfl (okX7_o hp_) rc_7 (by decide) (by first | exact Nat.le_of_ble_eq_true rfl | simp [rva_cat, vc_i, vc_r, vc_l, vc_n]) nn0 rfl (pc2 := 7) rfl ?_
  refine e_istore dX7_change_7 (by decide) rfl (ls' := [(0, .ref p), (1, .ref v1), (2, .int v2), (3, .int v3), (4, .int v4), (5, .int y1)]) [1, 2, 3, 4, 5, 0] rfl (pc2 := 9) rfl ?_
  refine e_iload dX7_change_9 5 rfl (pc2 := 11) rfl ?_
  refine e_iconst (x := (-1)) dX7_change_11 (by decide) (pc2 := 12) rfl ?_
  refine e_icmp_eq (tgt := 32) dX7_change_12 (by decide) (pc2 := 15) rfl (fun c2 => ?_) (fun c2 => ?_)
  · have hf := if_t c2 hf
    refine e_iconst (x := 0) dX7_change_32 (by decide) (pc2 := 33) rfl ?_
    cases hf
    exact e_zret (by decide) rfl dX7_change_33
  · have hf := if_f c2 hf
    refine e_iload dX7_change_15 5 rfl (pc2 := 17) rfl ?_
    refine e_iload dX7_change_17 4 rfl (pc2 := 19) rfl ?_
    refine e_icmp_eq (tgt := 32) dX7_change_19 (by decide) (pc2 := 22) rfl (fun c3 => ?_) (fun c3 => ?_)
    · have hf := if_t c3 hf
      refine e_iconst (x := 0) dX7_change_32 (by decide) (pc2 := 33) rfl ?_
      cases hf
      exact e_zret (by decide) rfl dX7_change_33
    · have hf := if_f c3 hf
      refine e_aload_n dX7_change_22 1 rfl rfl (pc2 := 23) rfl ?_
      refine e_iload_n dX7_change_23 2 rfl rfl (pc2 := 24) rfl ?_
      refine e_iload dX7_change_24 4 rfl (pc2 := 26) rfl ?_
      refine e_callSs (t_X7_isAllowed v1 hv1 v2 v4 s rfl) dX7_change_26 cs_X7_82 rfl (by decide) (by first | exact Nat.le_of_ble_eq_true rfl | simp [rva_cat, vc_i, vc_r, vc_l, vc_n]) nn0 rfl (pc2 := 29) rfl ?_
      refine e_if_ne (tgt := 34) dX7_change_29 (by decide) (pc2 := 32) rfl (fun c4 => ?_) (fun c4 => ?_)
      · have hf := if_f c4 hf
        refine e_iload_n dX7_change_34 2 rfl rfl (pc2 := 35) rfl ?_
        by_cases c5 : v2 = 0
        · have hf := if_t c5 hf
          rw [c5]
          refine e_tableIn (tgt := 64) dX7_change_35 (by decide) (by decide) rfl (by decide) ?_
          refine e_aload_n dX7_change_64 0 rfl rfl (pc2 := 65) rfl ?_
          refine e_iload dX7_change_65 4 rfl (pc2 := 67) rfl ?_
          obtain ⟨s6, es6, hf⟩ := ltb_s hf
          refine e_putI fl_X7_33 dX7_change_67 (okX7_o hp_) fn_7_1 (h2 := hp s6) (by rw [es6]; rfl) (pc2 := 70) rfl ?_
          refine e_goto (tgt := 114) dX7_change_70 (by decide) ?_
          refine e_iconst (x := 1) dX7_change_114 (by decide) (pc2 := 115) rfl ?_
          cases hf
          exact e_zret (by decide) rfl dX7_change_115
        have hf := if_f c5 hf
        by_cases c7 : v2 = 1
        · have hf := if_t c7 hf
          rw [c7]
          refine e_tableIn (tgt := 73) dX7_change_35 (by decide) (by decide) rfl (by decide) ?_
          refine e_aload_n dX7_change_73 0 rfl rfl (pc2 := 74) rfl ?_
          refine e_iload dX7_change_74 4 rfl (pc2 := 76) rfl ?_
          obtain ⟨s8, es8, hf⟩ := ltb_s hf
          refine e_putI fl_X7_34 dX7_change_76 (okX7_o hp_) fn_7_2 (h2 := hp s8) (by rw [es8]; rfl) (pc2 := 79) rfl ?_
          refine e_goto (tgt := 114) dX7_change_79 (by decide) ?_
          refine e_iconst (x := 1) dX7_change_114 (by decide) (pc2 := 115) rfl ?_
          cases hf
          exact e_zret (by decide) rfl dX7_change_115
        have hf := if_f c7 hf
        by_cases c9 : v2 = 2
        · have hf := if_t c9 hf
          rw [c9]
          refine e_tableIn (tgt := 82) dX7_change_35 (by decide) (by decide) rfl (by decide) ?_
          refine e_aload_n dX7_change_82 0 rfl rfl (pc2 := 83) rfl ?_
          refine e_iload dX7_change_83 4 rfl (pc2 := 85) rfl ?_
          obtain ⟨s10, es10, hf⟩ := ltb_s hf
          refine e_putI fl_X7_40 dX7_change_85 (okX7_o hp_) fn_7_3 (h2 := hp s10) (by rw [es10]; rfl) (pc2 := 88) rfl ?_
          refine e_goto (tgt := 114) dX7_change_88 (by decide) ?_
          refine e_iconst (x := 1) dX7_change_114 (by decide) (pc2 := 115) rfl ?_
          cases hf
          exact e_zret (by decide) rfl dX7_change_115
        have hf := if_f c9 hf
        by_cases c11 : v2 = 3
        · have hf := if_t c11 hf
          rw [c11]
          refine e_tableIn (tgt := 91) dX7_change_35 (by decide) (by decide) rfl (by decide) ?_
          refine e_aload_n dX7_change_91 0 rfl rfl (pc2 := 92) rfl ?_
          refine e_dup dX7_change_92 rfl (pc2 := 93) rfl ?_
          refine e_getI fl_X7_24 dX7_change_93 (okX7_o hp_) (by decide) (pc2 := 96) rfl ?_
          refine e_iconst (x := 1) dX7_change_96 (by decide) (pc2 := 97) rfl ?_
          refine e_iload_n dX7_change_97 3 rfl rfl (pc2 := 98) rfl ?_
          refine e_ishl dX7_change_98 (pc2 := 99) rfl ?_
          refine e_ixor dX7_change_99 (pc2 := 100) rfl ?_
          obtain ⟨s12, es12, hf⟩ := ltb_s hf
          refine e_putI fl_X7_24 dX7_change_100 (okX7_o hp_) fn_7_0 (h2 := hp s12) (by rw [es12]; rfl) (pc2 := 103) rfl ?_
          refine e_goto (tgt := 114) dX7_change_103 (by decide) ?_
          refine e_iconst (x := 1) dX7_change_114 (by decide) (pc2 := 115) rfl ?_
          cases hf
          exact e_zret (by decide) rfl dX7_change_115
        have hf := if_f c11 hf
        refine e_tableOut (tgt := 106) dX7_change_35 ?_ (by decide) ?_
        · have q0 := lv_neT (a := 0) c5 (by decide)
          have q1 := lv_neT (a := 1) c7 (by decide)
          have q2 := lv_neT (a := 2) c9 (by decide)
          have q3 := lv_neT (a := 3) c11 (by decide)
          omega
        refine e_aload_n dX7_change_106 0 rfl rfl (pc2 := 107) rfl ?_
        refine e_getR (r := Rf p 4) fl_X7_9 dX7_change_107 (okX7_o hp_) (okX7_R hp_) (isA_ne (okX7_hot hp_)) (pc2 := 110) rfl ?_
        refine e_iload_n dX7_change_110 3 rfl rfl (pc2 := 111) rfl ?_
        refine e_iload dX7_change_111 4 rfl (pc2 := 113) rfl ?_
        obtain ⟨g14, hf⟩ := gd_some hf
        obtain ⟨s13, es13, hf⟩ := ltb_s hf
        refine e_iast dX7_change_113 (okX7_hot hp_) (inb_v g14) (h2 := hp s13) (by rw [es13]; rfl) (pc2 := 114) rfl ?_
        refine e_iconst (x := 1) dX7_change_114 (by decide) (pc2 := 115) rfl ?_
        cases hf
        exact e_zret (by decide) rfl dX7_change_115
      · have hf := if_t c4 hf
        refine e_iconst (x := 0) dX7_change_32 (by decide) (pc2 := 33) rfl ?_
        cases hf
        exact e_zret (by decide) rfl dX7_change_33
abbrev DDX7_isLaw : Nat := 1
def f_X7_isLaw_l2b (v0 : Nat) (v1 : Int32) (v2 : Int32) (v3 : Int32) (k2 : Int32 → Option Int32) (s : HS) : Option Int32 :=
  (if (s.1 v0 8) ≤ v3 then some 1 else gd (inb (v3 * 2) 20) (gd (inb ((v3 * 2) + 1) 20) ((if (v1 + (v2 * (s.1 (Rf v0 7) (v3 * 2).toNatClampNeg))) = (s.1 (Rf v0 7) ((v3 * 2) + 1).toNatClampNeg) then ltb (v3 + 1) fun x5 => k2 x5 else some 0))))
set_option maxRecDepth 20000 in
set_option maxHeartbeats 2000000 in
theorem t_X7_isLaw_l2b (v0 : Nat) (v1 : Int32) (v2 : Int32) (v3 : Int32) (hv0 : okX7 v0 = true) (s : HS) {x : Int32} (k2 : Int32 → Option Int32) (hk2 : ∀ (a3 : Int32), k2 a3 = some x → Ev DDX7_isLaw miX7_isLaw NF (some (.int x)) NF (hp s) 2 NF [(0, .ref v0), (1, .int v1), (2, .int v2), (3, .int a3)] [] (hp s)) (hf : f_X7_isLaw_l2b v0 v1 v2 v3 k2 s = some x) : Ev DDX7_isLaw miX7_isLaw NF (some (.int x)) NF (hp s) 2 NF [(0, .ref v0), (1, .int v1), (2, .int v2), (3, .int v3)] [] (hp s) := by
  refine e_iload_n dX7_isLaw_2 3 rfl rfl (pc2 := 3) rfl ?_
  refine e_aload_n dX7_isLaw_3 0 rfl rfl (pc2 := 4) rfl ?_
  refine e_getI fl_X7_55 dX7_isLaw_4 (okX7_o hv0) (by decide) (pc2 := 7) rfl ?_
  refine e_icmp_ge (tgt := 43) dX7_isLaw_7 (by decide) (pc2 := 10) rfl (fun c1 => ?_) (fun c1 => ?_)
  · have hf := if_t c1 hf
    refine e_iconst (x := 1) dX7_isLaw_43 (by decide) (pc2 := 44) rfl ?_
    cases hf
    exact e_zret (by decide) rfl dX7_isLaw_44
  · have hf := if_f c1 hf
    refine e_iload_n dX7_isLaw_10 1 rfl rfl (pc2 := 11) rfl ?_
    refine e_iload_n dX7_isLaw_11 2 rfl rfl (pc2 := 12) rfl ?_
    refine e_aload_n dX7_isLaw_12 0 rfl rfl (pc2 := 13) rfl ?_
    refine e_getR (r := Rf v0 7) fl_X7_18 dX7_isLaw_13 (okX7_o hv0) (okX7_R hv0) (isA_ne (okX7_sold hv0)) (pc2 := 16) rfl ?_
    refine e_iload_n dX7_isLaw_16 3 rfl rfl (pc2 := 17) rfl ?_
    refine e_iconst (x := 2) dX7_isLaw_17 (by decide) (pc2 := 18) rfl ?_
    refine e_imul dX7_isLaw_18 (pc2 := 19) rfl ?_
    obtain ⟨g2, hf⟩ := gd_some hf
    refine e_iald dX7_isLaw_19 (okX7_sold hv0) (inb_v g2) (pc2 := 20) rfl ?_
    refine e_imul dX7_isLaw_20 (pc2 := 21) rfl ?_
    refine e_iadd dX7_isLaw_21 (pc2 := 22) rfl ?_
    refine e_aload_n dX7_isLaw_22 0 rfl rfl (pc2 := 23) rfl ?_
    refine e_getR (r := Rf v0 7) fl_X7_18 dX7_isLaw_23 (okX7_o hv0) (okX7_R hv0) (isA_ne (okX7_sold hv0)) (pc2 := 26) rfl ?_
    refine e_iload_n dX7_isLaw_26 3 rfl rfl (pc2 := 27) rfl ?_
    refine e_iconst (x := 2) dX7_isLaw_27 (by decide) (pc2 := 28) rfl ?_
    refine e_imul dX7_isLaw_28 (pc2 := 29) rfl ?_
    refine e_iconst (x := 1) dX7_isLaw_29 (by decide) (pc2 := 30) rfl ?_
    refine e_iadd dX7_isLaw_30 (pc2 := 31) rfl ?_
    obtain ⟨g3, hf⟩ := gd_some hf
    refine e_iald dX7_isLaw_31 (okX7_sold hv0) (inb_v g3) (pc2 := 32) rfl ?_
    refine e_icmp_eq (tgt := 37) dX7_isLaw_32 (by decide) (pc2 := 35) rfl (fun c4 => ?_) (fun c4 => ?_)
    · have hf := if_t c4 hf
      obtain ⟨x5, ex5, hf⟩ := ltb_s hf
      refine e_iinc dX7_isLaw_37 3 rfl (c9 := 1) (by decide) ex5.symm (by decide) (ls' := [(0, .ref v0), (1, .int v1), (2, .int v2), (3, .int x5)]) [1, 2, 3, 0] rfl (pc2 := 40) rfl ?_
      refine e_goto (tgt := 2) dX7_isLaw_40 (by decide) ?_
      exact hk2 x5 hf
    · have hf := if_f c4 hf
      refine e_iconst (x := 0) dX7_isLaw_35 (by decide) (pc2 := 36) rfl ?_
      cases hf
      exact e_zret (by decide) rfl dX7_isLaw_36
def f_X7_isLaw_l2 (v0 : Nat) (v1 : Int32) (v2 : Int32) (s : HS) : Nat → Int32 → Option Int32
  | 0, _ => none
  | n + 1, v3 => f_X7_isLaw_l2b v0 v1 v2 v3 (f_X7_isLaw_l2 v0 v1 v2 s n)  s
set_option maxRecDepth 20000 in
set_option maxHeartbeats 2000000 in
theorem t_X7_isLaw_l2 (v0 : Nat) (v1 : Int32) (v2 : Int32) (hv0 : okX7 v0 = true) (s : HS) {x : Int32}  : ∀ (n : Nat) (v3 : Int32), f_X7_isLaw_l2 v0 v1 v2 s n v3 = some x → Ev DDX7_isLaw miX7_isLaw NF (some (.int x)) NF (hp s) 2 NF [(0, .ref v0), (1, .int v1), (2, .int v2), (3, .int v3)] [] (hp s) := by
  intro n
  induction n with
  | zero =>
    intro v3 hf
    have hf : none = some x := hf
    cases hf
  | succ n ih =>
    intro v3 hf
    exact t_X7_isLaw_l2b v0 v1 v2 v3 hv0 s _ ih  hf
def f_X7_isLaw (p : Nat) (v1 : Int32) (v2 : Int32) (s : HS) : Option Int32 :=
  f_X7_isLaw_l2 p v1 v2 s FU 0
set_option maxRecDepth 20000 in
set_option maxHeartbeats 2000000 in
theorem t_X7_isLaw (p : Nat) (hp_ : okX7 p = true) (v1 : Int32) (v2 : Int32) (s : HS) {x : Int32} (hf : f_X7_isLaw p v1 v2 s = some x) : Mt DDX7_isLaw miX7_isLaw [.ref p, .int v1, .int v2] NF (hp s) (some (.int x)) NF (hp s) := by
  refine Mt.of (by decide +kernel) (Nat.le_refl _) (Nat.le_of_ble_eq_true rfl) ?_
  show Ev DDX7_isLaw miX7_isLaw NF (some (.int x)) NF (hp s) 0 NF [(0, .ref p), (1, .int v1), (2, .int v2)] [] (hp s)
  unfold f_X7_isLaw at hf
  refine e_iconst (x := 0) dX7_isLaw_0 (by decide) (pc2 := 1) rfl ?_
  refine e_istore_n dX7_isLaw_1 rfl (by decide) rfl (ls' := [(0, .ref p), (1, .int v1), (2, .int v2), (3, .int 0)]) [1, 2, 3, 0] rfl (pc2 := 2) rfl ?_
  refine t_X7_isLaw_l2 p v1 v2 hp_ s FU 0 hf
