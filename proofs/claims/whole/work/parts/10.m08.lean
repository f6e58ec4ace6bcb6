abbrev DDX11_mark : Nat := 3
def f_X11_mark (v1 : Int32) (v2 : Int32) (s : HS) : Option (Int32 × HS) :=
  (if v1 < 0 then some (0, s) else (if v1 < 4 then gd (inb v1 4) (ltb (Rf 33 v1.toNatClampNeg) fun o4 => (if v2 = 0 then bnd (f_X7_copyAll o4 64 s) fun s11 => ltb (sI s11 o4 11 1) fun s12 => some (1, s12) else (if (s.1 o4 11) = 0 then some (0, s) else bnd (f_X7_copyAll 64 o4 s) fun s8 => ltb (sI s8 1 10 0) fun s9 => some (1, s9)))) else some (0, s)))
set_option maxRecDepth 20000 in
set_option maxHeartbeats 2000000 in
theorem t_X11_mark (v1 : Int32) (v2 : Int32) (s : HS) {x : Int32} {t : HS} (hf : f_X11_mark  v1 v2 s = some (x, t)) : Mt DDX11_mark miX11_mark [.ref 1, .int v1, .int v2] NF (hp s) (some (.int x)) NF (hp t) := by
  refine Mt.of (by decide +kernel) (Nat.le_refl _) (Nat.le_of_ble_eq_true rfl) ?_
  show Ev DDX11_mark miX11_mark NF (some (.int x)) NF (hp t) 0 NF [(0, .ref 1), (1, .int v1), (2, .int v2)] [] (hp s)
  unfold f_X11_mark at hf
  refine e_iload_n dX11_mark_0 1 rfl rfl (pc2 := 1) rfl ?_
  refine e_if_lt (tgt := 13) dX11_mark_1 (by decide) (pc2 := 4) rfl (fun c1 => ?_) (fun c1 => ?_)
  · have hf := if_t c1 hf
    refine e_iconst (x := 0) dX11_mark_13 (by decide) (pc2 := 14) rfl ?_
    cases hf
    exact e_zret (by decide) rfl dX11_mark_14
  · have hf := if_f c1 hf
    refine e_iload_n dX11_mark_4 1 rfl rfl (pc2 := 5) rfl ?_
    refine e_aload_n dX11_mark_5 0 rfl rfl (pc2 := 6) rfl ?_
    refine e_getR (r := 33) fl_X11_23 dX11_mark_6 so_1 (rs_1_7 s.2.2) (by decide) (pc2 := 9) rfl ?_
    refine e_alen (x := 4) dX11_mark_9 sa_33 (by decide) (by decide) (pc2 := 10) rfl ?_
    refine e_icmp_lt (tgt := 15) dX11_mark_10 (by decide) (pc2 := 13) rfl (fun c2 => ?_) (fun c2 => ?_)
    · have hf := if_t c2 hf
      refine e_aload_n dX11_mark_15 0 rfl rfl (pc2 := 16) rfl ?_
      refine e_getR (r := 33) fl_X11_23 dX11_mark_16 so_1 (rs_1_7 s.2.2) (by decide) (pc2 := 19) rfl ?_
      refine e_iload_n dX11_mark_19 1 rfl rfl (pc2 := 20) rfl ?_
      obtain ⟨g3, hf⟩ := gd_some hf
      refine e_aald (r := Rf 33 v1.toNatClampNeg) dX11_mark_20 sa_33 (by decide) (inb_v g3) (Rs_na (q := s.2.2) sa_33 (by decide)) (okX7_ne (mk_el (inb_v g3))) (pc2 := 21) rfl ?_
      obtain ⟨o4, eo4, hf⟩ := ltb_s hf
      have ho4 : okX7 o4 = true := by rw [eo4]; exact (mk_el (inb_v g3))
      refine e_astore_n dX11_mark_21 rfl (by decide) eo4.symm (ls' := [(0, .ref 1), (2, .int v2), (3, .ref o4)]) [1, 3, 0] rfl (pc2 := 22) rfl ?_
      refine e_iload_n dX11_mark_22 1 rfl rfl (pc2 := 23) rfl ?_
      refine e_if_ne (tgt := 41) dX11_mark_23 (by decide) (pc2 := 26) rfl (fun c5 => ?_) (fun c5 => ?_)
      · have hf := if_f c5 hf
        refine e_aload_n dX11_mark_41 2 rfl rfl (pc2 := 42) rfl ?_
        refine e_getI fl_X11_94 dX11_mark_42 (okX7_o ho4) (by decide) (pc2 := 45) rfl ?_
        refine e_if_ne (tgt := 50) dX11_mark_45 (by decide) (pc2 := 48) rfl (fun c6 => ?_) (fun c6 => ?_)
        · have hf := if_f c6 hf
          refine e_aload_n dX11_mark_50 0 rfl rfl (pc2 := 51) rfl ?_
          refine e_getR (r := 64) fl_X11_64 dX11_mark_51 so_1 (rs_1_5 s.2.2) (by decide) (pc2 := 54) rfl ?_
          refine e_aload_n dX11_mark_54 2 rfl rfl (pc2 := 55) rfl ?_
          obtain ⟨s8, hy7, hf⟩ := bnd_s hf
          refine e_callVn (t_X7_copyAll 64 (show okX7 64 = true from rfl) o4 ho4 s hy7) dX11_mark_55 cv_X11_307 rfl (okX7_o (show okX7 64 = true from rfl)) rc_7 (by decide) (by first | exact Nat.le_of_ble_eq_true rfl | simp [rva_cat, vc_i, vc_r, vc_l, vc_n]) nn0 rfl (pc2 := 58) rfl ?_
          refine e_aload_n dX11_mark_58 0 rfl rfl (pc2 := 59) rfl ?_
          refine e_iconst (x := 0) dX11_mark_59 (by decide) (pc2 := 60) rfl ?_
          obtain ⟨s9, es9, hf⟩ := ltb_s hf
          refine e_putI fl_X11_91 dX11_mark_60 so_1 fn_10_10 (h2 := hp s9) (by rw [es9]; rfl) (pc2 := 63) rfl ?_
          refine e_iconst (x := 1) dX11_mark_63 (by decide) (pc2 := 64) rfl ?_
          cases hf
          exact e_zret (by decide) rfl dX11_mark_64
        · have hf := if_t c6 hf
          refine e_iconst (x := 0) dX11_mark_48 (by decide) (pc2 := 49) rfl ?_
          cases hf
          exact e_zret (by decide) rfl dX11_mark_49
      · have hf := if_t c5 hf
        refine e_aload_n dX11_mark_26 2 rfl rfl (pc2 := 27) rfl ?_
        refine e_aload_n dX11_mark_27 0 rfl rfl (pc2 := 28) rfl ?_
        refine e_getR (r := 64) fl_X11_64 dX11_mark_28 so_1 (rs_1_5 s.2.2) (by decide) (pc2 := 31) rfl ?_
        obtain ⟨s11, hy10, hf⟩ := bnd_s hf
        refine e_callVn (t_X7_copyAll o4 ho4 64 (show okX7 64 = true from rfl) s hy10) dX11_mark_31 cv_X11_307 rfl (okX7_o ho4) rc_7 (by decide) (by first | exact Nat.le_of_ble_eq_true rfl | simp [rva_cat, vc_i, vc_r, vc_l, vc_n]) nn0 rfl (pc2 := 34) rfl ?_
        refine e_aload_n dX11_mark_34 2 rfl rfl (pc2 := 35) rfl ?_
        refine e_iconst (x := 1) dX11_mark_35 (by decide) (pc2 := 36) rfl ?_
        obtain ⟨s12, es12, hf⟩ := ltb_s hf
        refine e_putZ fl_X11_94 dX11_mark_36 (okX7_o ho4) fn_7_11 (by decide) (by decide) (h2 := hp s12) (by rw [es12]; rfl) (pc2 := 39) rfl ?_
        refine e_iconst (x := 1) dX11_mark_39 (by decide) (pc2 := 40) rfl ?_
        cases hf
        exact e_zret (by decide) rfl dX11_mark_40
    · have hf := if_f c2 hf
      refine e_iconst (x := 0) dX11_mark_13 (by decide) (pc2 := 14) rfl ?_
      cases hf
      exact e_zret (by decide) rfl dX11_mark_14
abbrev DDX11_count : Nat := 1
def f_X11_count (v1 : Int32) (s : HS) : Option Int32 :=
  (if v1 = 0 then gd (okX4 (s.2.2.1)) (some (s.1 (s.2.2.1) 9)) else if v1 = 1 then gd (okX4 (s.2.2.1)) (some (s.1 (s.2.2.1) 12)) else if v1 = 2 then gd (okX4 (s.2.2.1)) (some (s.1 (s.2.2.1) 14)) else if v1 = 3 then gd (okX4 (s.2.2.1)) (some (s.1 (s.2.2.1) 0)) else if v1 = 4 then some (s.1 64 1) else if v1 = 5 then some (s.1 64 2) else if v1 = 6 then some (s.1 64 3) else if v1 = 7 then some (s.1 64 0) else if v1 = 8 then some (s.1 64 6) else if v1 = 9 then some (s.1 64 8) else if v1 = 10 then some (s.1 64 10) else if v1 = 11 then some (s.1 1 10) else if v1 = 12 then some (s.1 36 1) else some (-1))
set_option maxRecDepth 20000 in
set_option maxHeartbeats 2000000 in
theorem t_X11_count (v1 : Int32) (s : HS) {x : Int32} (hf : f_X11_count  v1 s = some x) : Mt DDX11_count miX11_count [.ref 1, .int v1] NF (hp s) (some (.int x)) NF (hp s) := by
  refine Mt.of (by decide +kernel) (Nat.le_refl _) (Nat.le_of_ble_eq_true rfl) ?_
  show Ev DDX11_count miX11_count NF (some (.int x)) NF (hp s) 0 NF [(0, .ref 1), (1, .int v1)] [] (hp s)
  unfold f_X11_count at hf
  refine e_iload_n dX11_count_0 1 rfl rfl (pc2 := 1) rfl ?_
  by_cases c1 : v1 = 0
  · have hf := if_t c1 hf
    rw [c1]
    refine e_tableIn (tgt := 68) dX11_count_1 (by decide) (by decide) rfl (by decide) ?_
    refine e_aload_n dX11_count_68 0 rfl rfl (pc2 := 69) rfl ?_
    obtain ⟨g2, hf⟩ := gd_some hf
    refine e_getR (r := s.2.2.1) fl_X11_61 dX11_count_69 so_1 rfl (okX4_ne g2) (pc2 := 72) rfl ?_
    refine e_getI fl_X11_310 dX11_count_72 (okX4_o g2) (by decide) (pc2 := 75) rfl ?_
    cases hf
    exact e_iret rfl dX11_count_75
  have hf := if_f c1 hf
  by_cases c3 : v1 = 1
  · have hf := if_t c3 hf
    rw [c3]
    refine e_tableIn (tgt := 76) dX11_count_1 (by decide) (by decide) rfl (by decide) ?_
    refine e_aload_n dX11_count_76 0 rfl rfl (pc2 := 77) rfl ?_
    obtain ⟨g4, hf⟩ := gd_some hf
    refine e_getR (r := s.2.2.1) fl_X11_61 dX11_count_77 so_1 rfl (okX4_ne g4) (pc2 := 80) rfl ?_
    refine e_getI fl_X11_313 dX11_count_80 (okX4_o g4) (by decide) (pc2 := 83) rfl ?_
    cases hf
    exact e_iret rfl dX11_count_83
  have hf := if_f c3 hf
  by_cases c5 : v1 = 2
  · have hf := if_t c5 hf
    rw [c5]
    refine e_tableIn (tgt := 84) dX11_count_1 (by decide) (by decide) rfl (by decide) ?_
    refine e_aload_n dX11_count_84 0 rfl rfl (pc2 := 85) rfl ?_
    obtain ⟨g6, hf⟩ := gd_some hf
    refine e_getR (r := s.2.2.1) fl_X11_61 dX11_count_85 so_1 rfl (okX4_ne g6) (pc2 := 88) rfl ?_
    refine e_getI fl_X11_229 dX11_count_88 (okX4_o g6) (by decide) (pc2 := 91) rfl ?_
    cases hf
    exact e_iret rfl dX11_count_91
  have hf := if_f c5 hf
  by_cases c7 : v1 = 3
  · have hf := if_t c7 hf
    rw [c7]
    refine e_tableIn (tgt := 92) dX11_count_1 (by decide) (by decide) rfl (by decide) ?_
    refine e_aload_n dX11_count_92 0 rfl rfl (pc2 := 93) rfl ?_
    obtain ⟨g8, hf⟩ := gd_some hf
    refine e_getR (r := s.2.2.1) fl_X11_61 dX11_count_93 so_1 rfl (okX4_ne g8) (pc2 := 96) rfl ?_
    refine e_getI fl_X11_267 dX11_count_96 (okX4_o g8) (by decide) (pc2 := 99) rfl ?_
    cases hf
    exact e_iret rfl dX11_count_99
  have hf := if_f c7 hf
  by_cases c9 : v1 = 4
  · have hf := if_t c9 hf
    rw [c9]
    refine e_tableIn (tgt := 100) dX11_count_1 (by decide) (by decide) rfl (by decide) ?_
    refine e_aload_n dX11_count_100 0 rfl rfl (pc2 := 101) rfl ?_
    refine e_getR (r := 64) fl_X11_64 dX11_count_101 so_1 (rs_1_5 s.2.2) (by decide) (pc2 := 104) rfl ?_
    refine e_getI fl_X11_168 dX11_count_104 (okX7_o (show okX7 64 = true from rfl)) (by decide) (pc2 := 107) rfl ?_
    cases hf
    exact e_iret rfl dX11_count_107
  have hf := if_f c9 hf
  by_cases c10 : v1 = 5
  · have hf := if_t c10 hf
    rw [c10]
    refine e_tableIn (tgt := 108) dX11_count_1 (by decide) (by decide) rfl (by decide) ?_
    refine e_aload_n dX11_count_108 0 rfl rfl (pc2 := 109) rfl ?_
    refine e_getR (r := 64) fl_X11_64 dX11_count_109 so_1 (rs_1_5 s.2.2) (by decide) (pc2 := 112) rfl ?_
    refine e_getI fl_X11_161 dX11_count_112 (okX7_o (show okX7 64 = true from rfl)) (by decide) (pc2 := 115) rfl ?_
    cases hf
    exact e_iret rfl dX11_count_115
  have hf := if_f c10 hf
  by_cases c11 : v1 = 6
  · have hf := if_t c11 hf
    rw [c11]
    refine e_tableIn (tgt := 116) dX11_count_1 (by decide) (by decide) rfl (by decide) ?_
    refine e_aload_n dX11_count_116 0 rfl rfl (pc2 := 117) rfl ?_
    refine e_getR (r := 64) fl_X11_64 dX11_count_117 so_1 (rs_1_5 s.2.2) (by decide) (pc2 := 120) rfl ?_
    refine e_getI fl_X11_255 dX11_count_120 (okX7_o (show okX7 64 = true from rfl)) (by decide) (pc2 := 123) rfl ?_
    cases hf
    exact e_iret rfl dX11_count_123
  have hf := if_f c11 hf
  by_cases c12 : v1 = 7
  · have hf := if_t c12 hf
    rw [c12]
    refine e_tableIn (tgt := 124) dX11_count_1 (by decide) (by decide) rfl (by decide) ?_
    refine e_aload_n dX11_count_124 0 rfl rfl (pc2 := 125) rfl ?_
    refine e_getR (r := 64) fl_X11_64 dX11_count_125 so_1 (rs_1_5 s.2.2) (by decide) (pc2 := 128) rfl ?_
    refine e_getI fl_X11_158 dX11_count_128 (okX7_o (show okX7 64 = true from rfl)) (by decide) (pc2 := 131) rfl ?_
    cases hf
    exact e_iret rfl dX11_count_131
  have hf := if_f c12 hf
  by_cases c13 : v1 = 8
  · have hf := if_t c13 hf
    rw [c13]
    refine e_tableIn (tgt := 132) dX11_count_1 (by decide) (by decide) rfl (by decide) ?_
    refine e_aload_n dX11_count_132 0 rfl rfl (pc2 := 133) rfl ?_
    refine e_getR (r := 64) fl_X11_64 dX11_count_133 so_1 (rs_1_5 s.2.2) (by decide) (pc2 := 136) rfl ?_
    refine e_getI fl_X11_182 dX11_count_136 (okX7_o (show okX7 64 = true from rfl)) (by decide) (pc2 := 139) rfl ?_
    cases hf
    exact e_iret rfl dX11_count_139
  have hf := if_f c13 hf
  by_cases c14 : v1 = 9
  · have hf := if_t c14 hf
    rw [c14]
    refine e_tableIn (tgt := 140) dX11_count_1 (by decide) (by decide) rfl (by decide) ?_
    refine e_aload_n dX11_count_140 0 rfl rfl (pc2 := 141) rfl ?_
    refine e_getR (r := 64) fl_X11_64 dX11_count_141 so_1 (rs_1_5 s.2.2) (by decide) (pc2 := 144) rfl ?_
    refine e_getI fl_X11_282 dX11_count_144 (okX7_o (show okX7 64 = true from rfl)) (by decide) (pc2 := 147) rfl ?_
    cases hf
    exact e_iret rfl dX11_count_147
  have hf := if_f c14 hf
  by_cases c15 : v1 = 10
  · have hf := if_t c15 hf
    rw [c15]
    refine e_tableIn (tgt := 148) dX11_count_1 (by decide) (by decide) rfl (by decide) ?_
    refine e_aload_n dX11_count_148 0 rfl rfl (pc2 := 149) rfl ?_
    refine e_getR (r := 64) fl_X11_64 dX11_count_149 so_1 (rs_1_5 s.2.2) (by decide) (pc2 := 152) rfl ?_
    refine e_getI fl_X11_291 dX11_count_152 (okX7_o (show okX7 64 = true from rfl)) (by decide) (pc2 := 155) rfl ?_
    cases hf
    exact e_iret rfl dX11_count_155
  have hf := if_f c15 hf
  by_cases c16 : v1 = 11
  · have hf := if_t c16 hf
    rw [c16]
    refine e_tableIn (tgt := 156) dX11_count_1 (by decide) (by decide) rfl (by decide) ?_
    refine e_aload_n dX11_count_156 0 rfl rfl (pc2 := 157) rfl ?_
    refine e_getI fl_X11_91 dX11_count_157 so_1 (by decide) (pc2 := 160) rfl ?_
    cases hf
    exact e_iret rfl dX11_count_160
  have hf := if_f c16 hf
  by_cases c17 : v1 = 12
  · have hf := if_t c17 hf
    rw [c17]
    refine e_tableIn (tgt := 161) dX11_count_1 (by decide) (by decide) rfl (by decide) ?_
    refine e_aload_n dX11_count_161 0 rfl rfl (pc2 := 162) rfl ?_
    refine e_getR (r := 36) fl_X11_41 dX11_count_162 so_1 (rs_1_0 s.2.2) (by decide) (pc2 := 165) rfl ?_
    refine e_getI fl_X11_80 dX11_count_165 so_36 (by decide) (pc2 := 168) rfl ?_
    cases hf
    exact e_iret rfl dX11_count_168
  have hf := if_f c17 hf
  refine e_tableOut (tgt := 169) dX11_count_1 ?_ (by decide) ?_
  · have q0 := lv_neT (a := 0) c1 (by decide)
    have q1 := lv_neT (a := 1) c3 (by decide)
    have q2 := lv_neT (a := 2) c5 (by decide)
    have q3 := lv_neT (a := 3) c7 (by decide)
    have q4 := lv_neT (a := 4) c9 (by decide)
    have q5 := lv_neT (a := 5) c10 (by decide)
    have q6 := lv_neT (a := 6) c11 (by decide)
    have q7 := lv_neT (a := 7) c12 (by decide)
    have q8 := lv_neT (a := 8) c13 (by decide)
    have q9 := lv_neT (a := 9) c14 (by decide)
    have q10 := lv_neT (a := 10) c15 (by decide)
    have q11 := lv_neT (a := 11) c16 (by decide)
    have q12 := lv_neT (a := 12) c17 (by decide)
    omega
  refine e_iconst (x := (-1)) dX11_count_169 (by decide) (pc2 := 170) rfl ?_
  cases hf
  exact e_iret rfl dX11_count_170
abbrev DDX11_fillGains : Nat := 7
def f_X11_fillGains_l52b (v1 : Int32) (v2 : Int32) (v3 : Int32) (k52 : Int32 → HS → Option HS) (k118 : HS → Option HS) (s : HS) : Option HS :=
  gd (okX4 (s.2.2.1)) ((if (s.1 (s.2.2.1) 14) ≤ v3 then k118 s else gd (inb v3 6) (gd (inb ((v2 * 6) + v3) 384) (ltb (sI s 35 (((v2 * 6) + v3).toNatClampNeg) (((10 * (f_J6_bitCount_0f7a4 (s.1 78 v3.toNatClampNeg) s)) - (3 * ((v2 >>> (v3 &&& 31)) &&& (1 : Int32)))) - (50 * (((s.1 73 15) >>> (v3 &&& 31)) &&& (1 : Int32))))) fun s12 => ltb (v3 + 1) fun x14 => k52 x14 s12))))
set_option maxRecDepth 20000 in
set_option maxHeartbeats 2000000 in
theorem t_X11_fillGains_l52b (v1 : Int32) (v2 : Int32) (v3 : Int32) (s : HS) {t : HS} (k52 : Int32 → HS → Option HS) (hk52 : ∀ (a3 : Int32) (s : HS), k52 a3 s = some t → Ev DDX11_fillGains miX11_fillGains NF none NF (hp t) 52 NF [(0, .ref 1), (1, .int v1), (2, .int v2), (3, .int a3)] [] (hp s)) (k118 : HS → Option HS) (hk118 : ∀ (s : HS), k118 s = some t → Ev DDX11_fillGains miX11_fillGains NF none NF (hp t) 118 NF [(0, .ref 1), (1, .int v1), (2, .int v2)] [] (hp s)) (hf : f_X11_fillGains_l52b v1 v2 v3 k52 k118 s = some t) : Ev DDX11_fillGains miX11_fillGains NF none NF (hp t) 52 NF [(0, .ref 1), (1, .int v1), (2, .int v2), (3, .int v3)] [] (hp s) := by
  refine e_iload_n dX11_fillGains_52 3 rfl rfl (pc2 := 53) rfl ?_
  refine e_aload_n dX11_fillGains_53 0 rfl rfl (pc2 := 54) rfl ?_
  obtain ⟨g9, hf⟩ := gd_some hf
  refine e_getR (r := s.2.2.1) fl_X11_61 dX11_fillGains_54 so_1 rfl (okX4_ne g9) (pc2 := 57) rfl ?_
  refine e_getI fl_X11_229 dX11_fillGains_57 (okX4_o g9) (by decide) (pc2 := 60) rfl ?_
  refine e_icmp_ge (tgt := 118) dX11_fillGains_60 (by decide) (pc2 := 63) rfl (fun c10 => ?_) (fun c10 => ?_)
  · have hf := if_t c10 hf
    refine ev_sub [0, 1, 2] rfl ?_
    exact hk118 s hf
  · have hf := if_f c10 hf
    refine e_aload_n dX11_fillGains_63 0 rfl rfl (pc2 := 64) rfl ?_
    refine e_getR (r := 35) fl_X11_31 dX11_fillGains_64 so_1 (rs_1_11 s.2.2) (by decide) (pc2 := 67) rfl ?_
    refine e_iload_n dX11_fillGains_67 2 rfl rfl (pc2 := 68) rfl ?_
    refine e_bipush (x := 6) dX11_fillGains_68 (by decide) (pc2 := 70) rfl ?_
    refine e_imul dX11_fillGains_70 (pc2 := 71) rfl ?_
    refine e_iload_n dX11_fillGains_71 3 rfl rfl (pc2 := 72) rfl ?_
    refine e_iadd dX11_fillGains_72 (pc2 := 73) rfl ?_
    refine e_bipush (x := 10) dX11_fillGains_73 (by decide) (pc2 := 75) rfl ?_
    refine e_aload_n dX11_fillGains_75 0 rfl rfl (pc2 := 76) rfl ?_
    refine e_getR (r := 73) fl_X11_72 dX11_fillGains_76 so_1 (rs_1_8 s.2.2) (by decide) (pc2 := 79) rfl ?_
    refine e_getR (r := 78) fl_X11_203 dX11_fillGains_79 so_73 (rs_73_12 s.2.2) (by decide) (pc2 := 82) rfl ?_
    refine e_iload_n dX11_fillGains_82 3 rfl rfl (pc2 := 83) rfl ?_
    obtain ⟨g11, hf⟩ := gd_some hf
    refine e_iald dX11_fillGains_83 sa_78 (inb_v g11) (pc2 := 84) rfl ?_
    refine e_callSs (t_J6_bitCount_0f7a4 (s.1 78 v3.toNatClampNeg) s rfl) dX11_fillGains_84 cs_X11_215 rfl (by decide) (by first | exact Nat.le_of_ble_eq_true rfl | simp [rva_cat, vc_i, vc_r, vc_l, vc_n]) nn0 rfl (pc2 := 87) rfl ?_
    refine e_imul dX11_fillGains_87 (pc2 := 88) rfl ?_
    refine e_iconst (x := 3) dX11_fillGains_88 (by decide) (pc2 := 89) rfl ?_
    refine e_iload_n dX11_fillGains_89 2 rfl rfl (pc2 := 90) rfl ?_
    refine e_iload_n dX11_fillGains_90 3 rfl rfl (pc2 := 91) rfl ?_
    refine e_ishr dX11_fillGains_91 (pc2 := 92) rfl ?_
    refine e_iconst (x := 1) dX11_fillGains_92 (by decide) (pc2 := 93) rfl ?_
    refine e_iand dX11_fillGains_93 (pc2 := 94) rfl ?_
    refine e_imul dX11_fillGains_94 (pc2 := 95) rfl ?_
    refine e_isub dX11_fillGains_95 (pc2 := 96) rfl ?_
    refine e_bipush (x := 50) dX11_fillGains_96 (by decide) (pc2 := 98) rfl ?_
    refine e_aload_n dX11_fillGains_98 0 rfl rfl (pc2 := 99) rfl ?_
    refine e_getR (r := 73) fl_X11_72 dX11_fillGains_99 so_1 (rs_1_8 s.2.2) (by decide) (pc2 := 102) rfl ?_
    refine e_getI fl_X11_209 dX11_fillGains_102 so_73 (by decide) (pc2 := 105) rfl ?_
    refine e_iload_n dX11_fillGains_105 3 rfl rfl (pc2 := 106) rfl ?_
    refine e_ishr dX11_fillGains_106 (pc2 := 107) rfl ?_
    refine e_iconst (x := 1) dX11_fillGains_107 (by decide) (pc2 := 108) rfl ?_
    refine e_iand dX11_fillGains_108 (pc2 := 109) rfl ?_
    refine e_imul dX11_fillGains_109 (pc2 := 110) rfl ?_
    refine e_isub dX11_fillGains_110 (pc2 := 111) rfl ?_
    obtain ⟨g13, hf⟩ := gd_some hf
    obtain ⟨s12, es12, hf⟩ := ltb_s hf
    refine e_iast dX11_fillGains_111 sa_35 (inb_v g13) (h2 := hp s12) (by rw [es12]; rfl) (pc2 := 112) rfl ?_
    obtain ⟨x14, ex14, hf⟩ := ltb_s hf
    refine e_iinc dX11_fillGains_112 3 rfl (c9 := 1) (by decide) ex14.symm (by decide) (ls' := [(0, .ref 1), (1, .int v1), (2, .int v2), (3, .int x14)]) [1, 2, 3, 0] rfl (pc2 := 115) rfl ?_
    refine e_goto (tgt := 52) dX11_fillGains_115 (by decide) ?_
    exact hk52 x14 s12 hf
def f_X11_fillGains_l52 (v1 : Int32) (v2 : Int32) (k118 : HS → Option HS) : Nat → Int32 → HS → Option HS
  | 0, _, _ => none
  | n + 1, v3, s => f_X11_fillGains_l52b v1 v2 v3 (f_X11_fillGains_l52 v1 v2 k118 n) k118 s
set_option maxRecDepth 20000 in
set_option maxHeartbeats 2000000 in
theorem t_X11_fillGains_l52 (v1 : Int32) (v2 : Int32) {t : HS} (k118 : HS → Option HS) (hk118 : ∀ (s : HS), k118 s = some t → Ev DDX11_fillGains miX11_fillGains NF none NF (hp t) 118 NF [(0, .ref 1), (1, .int v1), (2, .int v2)] [] (hp s)) : ∀ (n : Nat) (v3 : Int32) (s : HS), f_X11_fillGains_l52 v1 v2 k118 n v3 s = some t → Ev DDX11_fillGains miX11_fillGains NF none NF (hp t) 52 NF [(0, .ref 1), (1, .int v1), (2, .int v2), (3, .int v3)] [] (hp s) := by
  intro n
  induction n with
  | zero =>
    intro v3 s hf
    have hf : none = some t := hf
    cases hf
  | succ n ih =>
    intro v3 s hf
    exact t_X11_fillGains_l52b v1 v2 v3  s _ ih _ hk118 hf
def f_X11_fillGains_l13b (v1 : Int32) (v2 : Int32) (k13 : Int32 → HS → Option HS) (s : HS) : Option HS :=
  (if v1 < v2 then some s else (if (v2 &&& (v1 ^^^ ((-1) : Int32))) = 0 then ltb (sI s 28 0 (((s.1 64 0) &&& (v1 ^^^ ((-1) : Int32))) ||| v2)) fun s6 => bnd (f_X11_playTrial s6) fun s8 => f_X11_fillGains_l52 v1 v2 (fun s15 => ltb (v2 + 1) fun x16 => k13 x16 s15) FU 0 s8 else ltb (v2 + 1) fun x5 => k13 x5 s))
set_option maxRecDepth 20000 in
set_option maxHeartbeats 2000000 in
theorem t_X11_fillGains_l13b (v1 : Int32) (v2 : Int32) (s : HS) {t : HS} (k13 : Int32 → HS → Option HS) (hk13 : ∀ (a2 : Int32) (s : HS), k13 a2 s = some t → Ev DDX11_fillGains miX11_fillGains NF none NF (hp t) 13 NF [(0, .ref 1), (1, .int v1), (2, .int a2)] [] (hp s)) (hf : f_X11_fillGains_l13b v1 v2 k13 s = some t) : Ev DDX11_fillGains miX11_fillGains NF none NF (hp t) 13 NF [(0, .ref 1), (1, .int v1), (2, .int v2)] [] (hp s) := by
  refine e_iload_n dX11_fillGains_13 2 rfl rfl (pc2 := 14) rfl ?_
  refine e_iload_n dX11_fillGains_14 1 rfl rfl (pc2 := 15) rfl ?_
  refine e_icmp_gt (tgt := 124) dX11_fillGains_15 (by decide) (pc2 := 18) rfl (fun c3 => ?_) (fun c3 => ?_)
  · have hf := if_t c3 hf
    cases hf
    exact e_vret rfl dX11_fillGains_124
  · have hf := if_f c3 hf
    refine e_iload_n dX11_fillGains_18 2 rfl rfl (pc2 := 19) rfl ?_
    refine e_iload_n dX11_fillGains_19 1 rfl rfl (pc2 := 20) rfl ?_
    refine e_iconst (x := (-1)) dX11_fillGains_20 (by decide) (pc2 := 21) rfl ?_
    refine e_ixor dX11_fillGains_21 (pc2 := 22) rfl ?_
    refine e_iand dX11_fillGains_22 (pc2 := 23) rfl ?_
    refine e_if_ne (tgt := 118) dX11_fillGains_23 (by decide) (pc2 := 26) rfl (fun c4 => ?_) (fun c4 => ?_)
    · have hf := if_f c4 hf
      obtain ⟨x5, ex5, hf⟩ := ltb_s hf
      refine e_iinc dX11_fillGains_118 2 rfl (c9 := 1) (by decide) ex5.symm (by decide) (ls' := [(0, .ref 1), (1, .int v1), (2, .int x5)]) [1, 2, 0] rfl (pc2 := 121) rfl ?_
      refine e_goto (tgt := 13) dX11_fillGains_121 (by decide) ?_
      exact hk13 x5 s hf
    · have hf := if_t c4 hf
      refine e_aload_n dX11_fillGains_26 0 rfl rfl (pc2 := 27) rfl ?_
      refine e_getR (r := 28) fl_X11_19 dX11_fillGains_27 so_1 (rs_1_6 s.2.2) (by decide) (pc2 := 30) rfl ?_
      refine e_aload_n dX11_fillGains_30 0 rfl rfl (pc2 := 31) rfl ?_
      refine e_getR (r := 64) fl_X11_64 dX11_fillGains_31 so_1 (rs_1_5 s.2.2) (by decide) (pc2 := 34) rfl ?_
      refine e_getI fl_X11_158 dX11_fillGains_34 (okX7_o (show okX7 64 = true from rfl)) (by decide) (pc2 := 37) rfl ?_
      refine e_iload_n dX11_fillGains_37 1 rfl rfl (pc2 := 38) rfl ?_
      refine e_iconst (x := (-1)) dX11_fillGains_38 (by decide) (pc2 := 39) rfl ?_
      refine e_ixor dX11_fillGains_39 (pc2 := 40) rfl ?_
      refine e_iand dX11_fillGains_40 (pc2 := 41) rfl ?_
      refine e_iload_n dX11_fillGains_41 2 rfl rfl (pc2 := 42) rfl ?_
      refine e_ior dX11_fillGains_42 (pc2 := 43) rfl ?_
      obtain ⟨s6, es6, hf⟩ := ltb_s hf
      refine e_putI fl_X11_158 dX11_fillGains_43 (okX7_o (show okX7 28 = true from rfl)) fn_7_0 (h2 := hp s6) (by rw [es6]; rfl) (pc2 := 46) rfl ?_
      refine e_aload_n dX11_fillGains_46 0 rfl rfl (pc2 := 47) rfl ?_
      obtain ⟨s8, hy7, hf⟩ := bnd_s hf
      refine e_callVn (t_X11_playTrial  s6 hy7) dX11_fillGains_47 cv_X11_184 rfl so_1 rc_10 (by decide) (by first | exact Nat.le_of_ble_eq_true rfl | simp [rva_cat, vc_i, vc_r, vc_l, vc_n]) nn0 rfl (pc2 := 50) rfl ?_
      refine e_iconst (x := 0) dX11_fillGains_50 (by decide) (pc2 := 51) rfl ?_
      refine e_istore_n dX11_fillGains_51 rfl (by decide) rfl (ls' := [(0, .ref 1), (1, .int v1), (2, .int v2), (3, .int 0)]) [1, 2, 3, 0] rfl (pc2 := 52) rfl ?_
      refine t_X11_fillGains_l52 v1 v2 _ ?_ FU 0 s8 hf
      · intro s15 hf
        obtain ⟨x16, ex16, hf⟩ := ltb_s hf
        refine e_iinc dX11_fillGains_118 2 rfl (c9 := 1) (by decide) ex16.symm (by decide) (ls' := [(0, .ref 1), (1, .int v1), (2, .int x16)]) [1, 2, 0] rfl (pc2 := 121) rfl ?_
        refine e_goto (tgt := 13) dX11_fillGains_121 (by decide) ?_
        exact hk13 x16 s15 hf
def f_X11_fillGains_l13 (v1 : Int32) : Nat → Int32 → HS → Option HS
  | 0, _, _ => none
  | n + 1, v2, s => f_X11_fillGains_l13b v1 v2 (f_X11_fillGains_l13 v1 n)  s
set_option maxRecDepth 20000 in
set_option maxHeartbeats 2000000 in
theorem t_X11_fillGains_l13 (v1 : Int32) {t : HS}  : ∀ (n : Nat) (v2 : Int32) (s : HS), f_X11_fillGains_l13 v1 n v2 s = some t → Ev DDX11_fillGains miX11_fillGains NF none NF (hp t) 13 NF [(0, .ref 1), (1, .int v1), (2, .int v2)] [] (hp s) := by
  intro n
  induction n with
  | zero =>
    intro v2 s hf
    have hf : none = some t := hf
    cases hf
  | succ n ih =>
    intro v2 s hf
    exact t_X11_fillGains_l13b v1 v2  s _ ih  hf
def f_X11_fillGains (v1 : Int32) (s : HS) : Option HS :=
  bnd (f_X7_copyHand 28 64 s) fun s2 => f_X11_fillGains_l13 v1 FU 0 s2
set_option maxRecDepth 20000 in
set_option maxHeartbeats 2000000 in
theorem t_X11_fillGains (v1 : Int32) (s : HS) {t : HS} (hf : f_X11_fillGains  v1 s = some t) : Mt DDX11_fillGains miX11_fillGains [.ref 1, .int v1] NF (hp s) none NF (hp t) := by
  refine Mt.of (by decide +kernel) (Nat.le_refl _) (Nat.le_of_ble_eq_true rfl) ?_
  show Ev DDX11_fillGains miX11_fillGains NF none NF (hp t) 0 NF [(0, .ref 1), (1, .int v1)] [] (hp s)
  unfold f_X11_fillGains at hf
  refine e_aload_n dX11_fillGains_0 0 rfl rfl (pc2 := 1) rfl ?_
  refine e_getR (r := 28) fl_X11_19 dX11_fillGains_1 so_1 (rs_1_6 s.2.2) (by decide) (pc2 := 4) rfl ?_
  refine e_aload_n dX11_fillGains_4 0 rfl rfl (pc2 := 5) rfl ?_
  refine e_getR (r := 64) fl_X11_64 dX11_fillGains_5 so_1 (rs_1_5 s.2.2) (by decide) (pc2 := 8) rfl ?_
  obtain ⟨s2, hy1, hf⟩ := bnd_s hf
  refine e_callVn (t_X7_copyHand 28 (show okX7 28 = true from rfl) 64 (show okX7 64 = true from rfl) s hy1) dX11_fillGains_8 cv_X11_225 rfl (okX7_o (show okX7 28 = true from rfl)) rc_7 (by decide) (by first | exact Nat.le_of_ble_eq_true rfl | simp [rva_cat, vc_i, vc_r, vc_l, vc_n]) nn0 rfl (pc2 := 11) rfl ?_
  refine e_iconst (x := 0) dX11_fillGains_11 (by decide) (pc2 := 12) rfl ?_
  refine e_istore_n dX11_fillGains_12 rfl (by decide) rfl (ls' := [(0, .ref 1), (1, .int v1), (2, .int 0)]) [1, 2, 0] rfl (pc2 := 13) rfl ?_
  refine t_X11_fillGains_l13 v1 FU 0 s2 hf
abbrev DDX11_isAtRest : Nat := 1
def f_X11_isAtRest_l2b (v1 : Int32) (v2 : Int32) (v3 : Int32) (k2 : Int32 → Option Int32) (s : HS) : Option Int32 :=
  gd (okX4 (s.2.2.1)) ((if (s.1 (s.2.2.1) 14) ≤ v3 then some 1 else ltb (v2 ^^^ ((1 : Int32) <<< (v3 &&& 31))) fun x3 => (if ((v1 >>> (v3 &&& 31)) &&& (1 : Int32)) = 0 then ltb (v3 + 1) fun x5 => k2 x5 else gd (inb ((x3 * 6) + v3) 384) (gd (inb ((v2 * 6) + v3) 384) ((if (s.1 35 ((x3 * 6) + v3).toNatClampNeg) ≤ (s.1 35 ((v2 * 6) + v3).toNatClampNeg) then ltb (v3 + 1) fun x9 => k2 x9 else some 0))))))
set_option maxRecDepth 20000 in
set_option maxHeartbeats 2000000 in
theorem t_X11_isAtRest_l2b (v1 : Int32) (v2 : Int32) (v3 : Int32) (s : HS) {x : Int32} (k2 : Int32 → Option Int32) (hk2 : ∀ (a3 : Int32), k2 a3 = some x → Ev DDX11_isAtRest miX11_isAtRest NF (some (.int x)) NF (hp s) 2 NF [(0, .ref 1), (1, .int v1), (2, .int v2), (3, .int a3)] [] (hp s)) (hf : f_X11_isAtRest_l2b v1 v2 v3 k2 s = some x) : Ev DDX11_isAtRest miX11_isAtRest NF (some (.int x)) NF (hp s) 2 NF [(0, .ref 1), (1, .int v1), (2, .int v2), (3, .int v3)] [] (hp s) := by
  refine e_iload_n dX11_isAtRest_2 3 rfl rfl (pc2 := 3) rfl ?_
  refine e_aload_n dX11_isAtRest_3 0 rfl rfl (pc2 := 4) rfl ?_
  obtain ⟨g1, hf⟩ := gd_some hf
  refine e_getR (r := s.2.2.1) fl_X11_61 dX11_isAtRest_4 so_1 rfl (okX4_ne g1) (pc2 := 7) rfl ?_
  refine e_getI fl_X11_229 dX11_isAtRest_7 (okX4_o g1) (by decide) (pc2 := 10) rfl ?_
  refine e_icmp_ge (tgt := 62) dX11_isAtRest_10 (by decide) (pc2 := 13) rfl (fun c2 => ?_) (fun c2 => ?_)
  · have hf := if_t c2 hf
    refine e_iconst (x := 1) dX11_isAtRest_62 (by decide) (pc2 := 63) rfl ?_
    cases hf
    exact e_zret (by decide) rfl dX11_isAtRest_63
  · have hf := if_f c2 hf
    refine e_iload_n dX11_isAtRest_13 2 rfl rfl (pc2 := 14) rfl ?_
    refine e_iconst (x := 1) dX11_isAtRest_14 (by decide) (pc2 := 15) rfl ?_
    refine e_iload_n dX11_isAtRest_15 3 rfl rfl (pc2 := 16) rfl ?_
    refine e_ishl dX11_isAtRest_16 (pc2 := 17) rfl ?_
    refine e_ixor dX11_isAtRest_17 (pc2 := 18) rfl ?_
    obtain ⟨x3, ex3, hf⟩ := ltb_s hf
    refine e_istore dX11_isAtRest_18 (by decide) ex3.symm (ls' := [(0, .ref 1), (1, .int v1), (2, .int v2), (3, .int v3), (4, .int x3)]) [1, 2, 3, 4, 0] rfl (pc2 := 20) rfl ?_
    refine e_iload_n dX11_isAtRest_20 1 rfl rfl (pc2 := 21) rfl ?_
    refine e_iload_n dX11_isAtRest_21 3 rfl rfl (pc2 := 22) rfl ?_
    refine e_ishr dX11_isAtRest_22 (pc2 := 23) rfl ?_
    refine e_iconst (x := 1) dX11_isAtRest_23 (by decide) (pc2 := 24) rfl ?_
    refine e_iand dX11_isAtRest_24 (pc2 := 25) rfl ?_
    refine e_if_eq (tgt := 56) dX11_isAtRest_25 (by decide) (pc2 := 28) rfl (fun c4 => ?_) (fun c4 => ?_)
    · have hf := if_t c4 hf
      obtain ⟨x5, ex5, hf⟩ := ltb_s hf
      refine e_iinc dX11_isAtRest_56 3 rfl (c9 := 1) (by decide) ex5.symm (by decide) (ls' := [(0, .ref 1), (1, .int v1), (2, .int v2), (3, .int x5)]) [1, 2, 3, 0] rfl (pc2 := 59) rfl ?_
      refine e_goto (tgt := 2) dX11_isAtRest_59 (by decide) ?_
      exact hk2 x5 hf
    · have hf := if_f c4 hf
      refine e_aload_n dX11_isAtRest_28 0 rfl rfl (pc2 := 29) rfl ?_
      refine e_getR (r := 35) fl_X11_31 dX11_isAtRest_29 so_1 (rs_1_11 s.2.2) (by decide) (pc2 := 32) rfl ?_
      refine e_iload dX11_isAtRest_32 4 rfl (pc2 := 34) rfl ?_
      refine e_bipush (x := 6) dX11_isAtRest_34 (by decide) (pc2 := 36) rfl ?_
      refine e_imul dX11_isAtRest_36 (pc2 := 37) rfl ?_
      refine e_iload_n dX11_isAtRest_37 3 rfl rfl (pc2 := 38) rfl ?_
      refine e_iadd dX11_isAtRest_38 (pc2 := 39) rfl ?_
      obtain ⟨g6, hf⟩ := gd_some hf
      refine e_iald dX11_isAtRest_39 sa_35 (inb_v g6) (pc2 := 40) rfl ?_
      refine e_aload_n dX11_isAtRest_40 0 rfl rfl (pc2 := 41) rfl ?_
      refine e_getR (r := 35) fl_X11_31 dX11_isAtRest_41 so_1 (rs_1_11 s.2.2) (by decide) (pc2 := 44) rfl ?_
      refine e_iload_n dX11_isAtRest_44 2 rfl rfl (pc2 := 45) rfl ?_
      refine e_bipush (x := 6) dX11_isAtRest_45 (by decide) (pc2 := 47) rfl ?_
      refine e_imul dX11_isAtRest_47 (pc2 := 48) rfl ?_
      refine e_iload_n dX11_isAtRest_48 3 rfl rfl (pc2 := 49) rfl ?_
      refine e_iadd dX11_isAtRest_49 (pc2 := 50) rfl ?_
      obtain ⟨g7, hf⟩ := gd_some hf
      refine e_iald dX11_isAtRest_50 sa_35 (inb_v g7) (pc2 := 51) rfl ?_
      refine e_icmp_le (tgt := 56) dX11_isAtRest_51 (by decide) (pc2 := 54) rfl (fun c8 => ?_) (fun c8 => ?_)
      · have hf := if_t c8 hf
        obtain ⟨x9, ex9, hf⟩ := ltb_s hf
        refine e_iinc dX11_isAtRest_56 3 rfl (c9 := 1) (by decide) ex9.symm (by decide) (ls' := [(0, .ref 1), (1, .int v1), (2, .int v2), (3, .int x9)]) [1, 2, 3, 0] rfl (pc2 := 59) rfl ?_
        refine e_goto (tgt := 2) dX11_isAtRest_59 (by decide) ?_
        exact hk2 x9 hf
      · have hf := if_f c8 hf
        refine e_iconst (x := 0) dX11_isAtRest_54 (by decide) (pc2 := 55) rfl ?_
        cases hf
        exact e_zret (by decide) rfl dX11_isAtRest_55
def f_X11_isAtRest_l2 (v1 : Int32) (v2 : Int32) (s : HS) : Nat → Int32 → Option Int32
  | 0, _ => none
  | n + 1, v3 => f_X11_isAtRest_l2b v1 v2 v3 (f_X11_isAtRest_l2 v1 v2 s n)  s
set_option maxRecDepth 20000 in
set_option maxHeartbeats 2000000 in
theorem t_X11_isAtRest_l2 (v1 : Int32) (v2 : Int32) (s : HS) {x : Int32}  : ∀ (n : Nat) (v3 : Int32), f_X11_isAtRest_l2 v1 v2 s n v3 = some x → Ev DDX11_isAtRest miX11_isAtRest NF (some (.int x)) NF (hp s) 2 NF [(0, .ref 1), (1, .int v1), (2, .int v2), (3, .int v3)] [] (hp s) := by
  intro n
  induction n with
  | zero =>
    intro v3 hf
    have hf : none = some x := hf
    cases hf
  | succ n ih =>
    intro v3 hf
    exact t_X11_isAtRest_l2b v1 v2 v3  s _ ih  hf
def f_X11_isAtRest (v1 : Int32) (v2 : Int32) (s : HS) : Option Int32 :=
  f_X11_isAtRest_l2 v1 v2 s FU 0
set_option maxRecDepth 20000 in
set_option maxHeartbeats 2000000 in
theorem t_X11_isAtRest (v1 : Int32) (v2 : Int32) (s : HS) {x : Int32} (hf : f_X11_isAtRest  v1 v2 s = some x) : Mt DDX11_isAtRest miX11_isAtRest [.ref 1, .int v1, .int v2] NF (hp s) (some (.int x)) NF (hp s) := by
  refine Mt.of (by decide +kernel) (Nat.le_refl _) (Nat.le_of_ble_eq_true rfl) ?_
  show Ev DDX11_isAtRest miX11_isAtRest NF (some (.int x)) NF (hp s) 0 NF [(0, .ref 1), (1, .int v1), (2, .int v2)] [] (hp s)
  unfold f_X11_isAtRest at hf
  refine e_iconst (x := 0) dX11_isAtRest_0 (by decide) (pc2 := 1) rfl ?_
  refine e_istore_n dX11_isAtRest_1 rfl (by decide) rfl (ls' := [(0, .ref 1), (1, .int v1), (2, .int v2), (3, .int 0)]) [1, 2, 3, 0] rfl (pc2 := 2) rfl ?_
  refine t_X11_isAtRest_l2 v1 v2 s FU 0 hf
abbrev DDX12_thrown : Nat := 1
def f_X12_thrown  (s : HS) : Int32 :=
  s.1 101 0
set_option maxRecDepth 20000 in
set_option maxHeartbeats 2000000 in
theorem t_X12_thrown  (s : HS) {x : Int32} (hf : f_X12_thrown  s = x) : Mt DDX12_thrown miX12_thrown [.ref 101] NF (hp s) (some (.int x)) NF (hp s) := by
  refine Mt.of (by decide +kernel) (Nat.le_refl _) (Nat.le_of_ble_eq_true rfl) ?_
  show Ev DDX12_thrown miX12_thrown NF (some (.int x)) NF (hp s) 0 NF [(0, .ref 101)] [] (hp s)
  unfold f_X12_thrown at hf
  refine e_aload_n dX12_thrown_0 0 rfl rfl (pc2 := 1) rfl ?_
  refine e_getI fl_X12_194 dX12_thrown_1 so_101 (by decide) (pc2 := 4) rfl ?_
  cases hf
  exact e_iret rfl dX12_thrown_4
abbrev DDX12_within : Nat := 1
def f_X12_within (v0 : Int32) (v1 : Int32) (v2 : Int32) (s : HS) : Int32 :=
  (if v0 < v1 then 0 else (if v2 < v0 then 0 else 1))
set_option maxRecDepth 20000 in
set_option maxHeartbeats 2000000 in
theorem t_X12_within (v0 : Int32) (v1 : Int32) (v2 : Int32) (s : HS) {x : Int32} (hf : f_X12_within  v0 v1 v2 s = x) : Mt DDX12_within miX12_within [.int v0, .int v1, .int v2] NF (hp s) (some (.int x)) NF (hp s) := by
  refine Mt.of (by decide +kernel) (Nat.le_refl _) (Nat.le_of_ble_eq_true rfl) ?_
  show Ev DDX12_within miX12_within NF (some (.int x)) NF (hp s) 0 NF [(0, .int v0), (1, .int v1), (2, .int v2)] [] (hp s)
  unfold f_X12_within at hf
  refine e_iload_n dX12_within_0 0 rfl rfl (pc2 := 1) rfl ?_
  refine e_iload_n dX12_within_1 1 rfl rfl (pc2 := 2) rfl ?_
  refine e_icmp_lt (tgt := 14) dX12_within_2 (by decide) (pc2 := 5) rfl (fun c1 => ?_) (fun c1 => ?_)
  · have hf := if_t c1 hf
    refine e_iconst (x := 0) dX12_within_14 (by decide) (pc2 := 15) rfl ?_
    cases hf
    exact e_zret (by decide) rfl dX12_within_15
  · have hf := if_f c1 hf
    refine e_iload_n dX12_within_5 0 rfl rfl (pc2 := 6) rfl ?_
    refine e_iload_n dX12_within_6 2 rfl rfl (pc2 := 7) rfl ?_
    refine e_icmp_gt (tgt := 14) dX12_within_7 (by decide) (pc2 := 10) rfl (fun c2 => ?_) (fun c2 => ?_)
    · have hf := if_t c2 hf
      refine e_iconst (x := 0) dX12_within_14 (by decide) (pc2 := 15) rfl ?_
      cases hf
      exact e_zret (by decide) rfl dX12_within_15
    · have hf := if_f c2 hf
      refine e_iconst (x := 1) dX12_within_10 (by decide) (pc2 := 11) rfl ?_
      refine e_goto (tgt := 15) dX12_within_11 (by decide) ?_
      cases hf
      exact e_zret (by decide) rfl dX12_within_15
abbrev DDX12_away : Nat := 1
def f_X12_away (v0 : Int32) (v1 : Int32) (s : HS) : Int32 :=
  (if v1 ≤ v0 then v0 - v1 else v1 - v0)
set_option maxRecDepth 20000 in
set_option maxHeartbeats 2000000 in
theorem t_X12_away (v0 : Int32) (v1 : Int32) (s : HS) {x : Int32} (hf : f_X12_away  v0 v1 s = x) : Mt DDX12_away miX12_away [.int v0, .int v1] NF (hp s) (some (.int x)) NF (hp s) := by
  refine Mt.of (by decide +kernel) (Nat.le_refl _) (Nat.le_of_ble_eq_true rfl) ?_
  show Ev DDX12_away miX12_away NF (some (.int x)) NF (hp s) 0 NF [(0, .int v0), (1, .int v1)] [] (hp s)
  unfold f_X12_away at hf
  refine e_iload_n dX12_away_0 0 rfl rfl (pc2 := 1) rfl ?_
  refine e_iload_n dX12_away_1 1 rfl rfl (pc2 := 2) rfl ?_
  refine e_icmp_ge (tgt := 11) dX12_away_2 (by decide) (pc2 := 5) rfl (fun c1 => ?_) (fun c1 => ?_)
  · have hf := if_t c1 hf
    refine e_iload_n dX12_away_11 0 rfl rfl (pc2 := 12) rfl ?_
    refine e_iload_n dX12_away_12 1 rfl rfl (pc2 := 13) rfl ?_
    refine e_isub dX12_away_13 (pc2 := 14) rfl ?_
    cases hf
    exact e_iret rfl dX12_away_14
  · have hf := if_f c1 hf
    refine e_iload_n dX12_away_5 1 rfl rfl (pc2 := 6) rfl ?_
    refine e_iload_n dX12_away_6 0 rfl rfl (pc2 := 7) rfl ?_
    refine e_isub dX12_away_7 (pc2 := 8) rfl ?_
    refine e_goto (tgt := 14) dX12_away_8 (by decide) ?_
    cases hf
    exact e_iret rfl dX12_away_14
abbrev DDX12_bits : Nat := 1
def f_X12_bits_l4b (v0 : Int32) (v1 : Int32) (v2 : Int32) (k4 : Int32 → Int32 → Option Int32) (s : HS) : Option Int32 :=
  (if 6 ≤ v2 then some v1 else ltb (v1 + ((v0 >>> (v2 &&& 31)) &&& (1 : Int32))) fun x2 => ltb (v2 + 1) fun x3 => k4 x2 x3)
set_option maxRecDepth 20000 in
set_option maxHeartbeats 2000000 in
theorem t_X12_bits_l4b (v0 : Int32) (v1 : Int32) (v2 : Int32) (s : HS) {x : Int32} (k4 : Int32 → Int32 → Option Int32) (hk4 : ∀ (a1 : Int32) (a2 : Int32), k4 a1 a2 = some x → Ev DDX12_bits miX12_bits NF (some (.int x)) NF (hp s) 4 NF [(0, .int v0), (1, .int a1), (2, .int a2)] [] (hp s)) (hf : f_X12_bits_l4b v0 v1 v2 k4 s = some x) : Ev DDX12_bits miX12_bits NF (some (.int x)) NF (hp s) 4 NF [(0, .int v0), (1, .int v1), (2, .int v2)] [] (hp s) := by
  refine e_iload_n dX12_bits_4 2 rfl rfl (pc2 := 5) rfl ?_
  refine e_bipush (x := 6) dX12_bits_5 (by decide) (pc2 := 7) rfl ?_
  refine e_icmp_ge (tgt := 24) dX12_bits_7 (by decide) (pc2 := 10) rfl (fun c1 => ?_) (fun c1 => ?_)
  · have hf := if_t c1 hf
    refine e_iload_n dX12_bits_24 1 rfl rfl (pc2 := 25) rfl ?_
    cases hf
    exact e_iret rfl dX12_bits_25
  · have hf := if_f c1 hf
    refine e_iload_n dX12_bits_10 1 rfl rfl (pc2 := 11) rfl ?_
    refine e_iload_n dX12_bits_11 0 rfl rfl (pc2 := 12) rfl ?_
    refine e_iload_n dX12_bits_12 2 rfl rfl (pc2 := 13) rfl ?_
    refine e_ishr dX12_bits_13 (pc2 := 14) rfl ?_
    refine e_iconst (x := 1) dX12_bits_14 (by decide) (pc2 := 15) rfl ?_
    refine e_iand dX12_bits_15 (pc2 := 16) rfl ?_
    refine e_iadd dX12_bits_16 (pc2 := 17) rfl ?_
    obtain ⟨x2, ex2, hf⟩ := ltb_s hf
    refine e_istore_n dX12_bits_17 rfl (by decide) ex2.symm (ls' := [(0, .int v0), (1, .int x2), (2, .int v2)]) [1, 0, 2] rfl (pc2 := 18) rfl ?_
    obtain ⟨x3, ex3, hf⟩ := ltb_s hf
    refine e_iinc dX12_bits_18 2 rfl (c9 := 1) (by decide) ex3.symm (by decide) (ls' := [(0, .int v0), (1, .int x2), (2, .int x3)]) [1, 2, 0] rfl (pc2 := 21) rfl ?_
    refine e_goto (tgt := 4) dX12_bits_21 (by decide) ?_
    exact hk4 x2 x3 hf
def f_X12_bits_l4 (v0 : Int32) (s : HS) : Nat → Int32 → Int32 → Option Int32
  | 0, _, _ => none
  | n + 1, v1, v2 => f_X12_bits_l4b v0 v1 v2 (f_X12_bits_l4 v0 s n)  s
set_option maxRecDepth 20000 in
set_option maxHeartbeats 2000000 in
theorem t_X12_bits_l4 (v0 : Int32) (s : HS) {x : Int32}  : ∀ (n : Nat) (v1 : Int32) (v2 : Int32), f_X12_bits_l4 v0 s n v1 v2 = some x → Ev DDX12_bits miX12_bits NF (some (.int x)) NF (hp s) 4 NF [(0, .int v0), (1, .int v1), (2, .int v2)] [] (hp s) := by
  intro n
  induction n with
  | zero =>
    intro v1 v2 hf
    have hf : none = some x := hf
    cases hf
  | succ n ih =>
    intro v1 v2 hf
    exact t_X12_bits_l4b v0 v1 v2  s _ ih  hf
def f_X12_bits (v0 : Int32) (s : HS) : Option Int32 :=
  f_X12_bits_l4 v0 s FU 0 0
set_option maxRecDepth 20000 in
set_option maxHeartbeats 2000000 in
theorem t_X12_bits (v0 : Int32) (s : HS) {x : Int32} (hf : f_X12_bits  v0 s = some x) : Mt DDX12_bits miX12_bits [.int v0] NF (hp s) (some (.int x)) NF (hp s) := by
  refine Mt.of (by decide +kernel) (Nat.le_refl _) (Nat.le_of_ble_eq_true rfl) ?_
  show Ev DDX12_bits miX12_bits NF (some (.int x)) NF (hp s) 0 NF [(0, .int v0)] [] (hp s)
  unfold f_X12_bits at hf
  refine e_iconst (x := 0) dX12_bits_0 (by decide) (pc2 := 1) rfl ?_
  refine e_istore_n dX12_bits_1 rfl (by decide) rfl (ls' := [(0, .int v0), (1, .int 0)]) [1, 0] rfl (pc2 := 2) rfl ?_
  refine e_iconst (x := 0) dX12_bits_2 (by decide) (pc2 := 3) rfl ?_
  refine e_istore_n dX12_bits_3 rfl (by decide) rfl (ls' := [(0, .int v0), (1, .int 0), (2, .int 0)]) [1, 2, 0] rfl (pc2 := 4) rfl ?_
  refine t_X12_bits_l4 v0 s FU 0 0 hf
abbrev DDX12_feed : Nat := 1
def f_X12_feed_j93 (v1 : Int64) (v3 : Int64) (v5 : Int64) (v7 : Int32) (v10 : Int32) (k8 : Int32 → HS → Option (Int32 × HS)) (s : HS) : Option (Int32 × HS) :=
  gd (inb (s.1 101 1) 1000) (ltb (sI s 102 ((s.1 101 1).toNatClampNeg) v10) fun s9 => ltb (sI s9 101 1 ((s9.1 101 1) + 1)) fun s11 => ltb (v7 + 1) fun x12 => k8 x12 s11)
set_option maxRecDepth 20000 in
set_option maxHeartbeats 2000000 in
theorem t_X12_feed_j93 (v1 : Int64) (v3 : Int64) (v5 : Int64) (v7 : Int32) (v10 : Int32) (s : HS) {x : Int32} {t : HS} (k8 : Int32 → HS → Option (Int32 × HS)) (hk8 : ∀ (a7 : Int32) (s : HS), k8 a7 s = some (x, t) → Ev DDX12_feed miX12_feed NF (some (.int x)) NF (hp t) 8 NF [(0, .ref 101), (1, .long v1), (3, .long v3), (5, .long v5), (7, .int a7)] [] (hp s)) (hf : f_X12_feed_j93 v1 v3 v5 v7 v10 k8 s = some (x, t)) : Ev DDX12_feed miX12_feed NF (some (.int x)) NF (hp t) 93 NF [(0, .ref 101), (1, .long v1), (3, .long v3), (5, .long v5), (7, .int v7), (10, .int v10)] [] (hp s) := by
  refine e_aload_n dX12_feed_93 0 rfl rfl (pc2 := 94) rfl ?_
  refine e_getR (r := 102) fl_X12_7 dX12_feed_94 so_101 (rs_101_2 s.2.2) (by decide) (pc2 := 97) rfl ?_
  refine e_aload_n dX12_feed_97 0 rfl rfl (pc2 := 98) rfl ?_
  refine e_getI fl_X12_199 dX12_feed_98 so_101 (by decide) (pc2 := 101) rfl ?_
  refine e_iload dX12_feed_101 5 rfl (pc2 := 103) rfl ?_
  obtain ⟨g10, hf⟩ := gd_some hf
  obtain ⟨s9, es9, hf⟩ := ltb_s hf
  refine e_iast dX12_feed_103 sa_102 (inb_v g10) (h2 := hp s9) (by rw [es9]; rfl) (pc2 := 104) rfl ?_
  refine e_aload_n dX12_feed_104 0 rfl rfl (pc2 := 105) rfl ?_
  refine e_dup dX12_feed_105 rfl (pc2 := 106) rfl ?_
  refine e_getI fl_X12_199 dX12_feed_106 so_101 (by decide) (pc2 := 109) rfl ?_
  refine e_iconst (x := 1) dX12_feed_109 (by decide) (pc2 := 110) rfl ?_
  refine e_iadd dX12_feed_110 (pc2 := 111) rfl ?_
  obtain ⟨s11, es11, hf⟩ := ltb_s hf
  refine e_putI fl_X12_199 dX12_feed_111 so_101 fn_11_1 (h2 := hp s11) (by rw [es11]; rfl) (pc2 := 114) rfl ?_
  obtain ⟨x12, ex12, hf⟩ := ltb_s hf
  refine e_iinc dX12_feed_114 4 rfl (c9 := 1) (by decide) ex12.symm (by decide) (ls' := [(0, .ref 101), (1, .long v1), (3, .long v3), (5, .long v5), (7, .int x12)]) [1, 2, 3, 4, 0] rfl (pc2 := 117) rfl ?_
  refine e_goto (tgt := 8) dX12_feed_117 (by decide) ?_
  exact hk8 x12 s11 hf
def f_X12_feed_j39 (v1 : Int64) (v3 : Int64) (v5 : Int64) (v7 : Int32) (w0 : Int64) (k8 : Int32 → HS → Option (Int32 × HS)) (s : HS) : Option (Int32 × HS) :=
  ltb (((((w0.toUInt64 >>> (((56 - (8 * (v7 &&& (7 : Int32)))) : Int32).toInt64.toUInt64 &&& Int64.toUInt64 63)).toInt64) : Int64) &&& (255 : Int64) : Int64).toInt32) fun x5 => (if 1000 ≤ (s.1 101 1) then ltb (v7 + 1) fun x7 => k8 x7 s else (if x5 = 10 then f_X12_feed_j93 v1 v3 v5 v7 x5 k8 s else (if x5 < 32 then ltb (v7 + 1) fun x14 => k8 x14 s else (if 126 < x5 then ltb (v7 + 1) fun x16 => k8 x16 s else f_X12_feed_j93 v1 v3 v5 v7 x5 k8 s))))
set_option maxRecDepth 20000 in
set_option maxHeartbeats 2000000 in
theorem t_X12_feed_j39 (v1 : Int64) (v3 : Int64) (v5 : Int64) (v7 : Int32) (w0 : Int64) (s : HS) {x : Int32} {t : HS} (k8 : Int32 → HS → Option (Int32 × HS)) (hk8 : ∀ (a7 : Int32) (s : HS), k8 a7 s = some (x, t) → Ev DDX12_feed miX12_feed NF (some (.int x)) NF (hp t) 8 NF [(0, .ref 101), (1, .long v1), (3, .long v3), (5, .long v5), (7, .int a7)] [] (hp s)) (hf : f_X12_feed_j39 v1 v3 v5 v7 w0 k8 s = some (x, t)) : Ev DDX12_feed miX12_feed NF (some (.int x)) NF (hp t) 39 NF [(0, .ref 101), (1, .long v1), (3, .long v3), (5, .long v5), (7, .int v7)] [.long w0] (hp s) := by
  refine e_lstore dX12_feed_39 (by decide) rfl (ls' := [(0, .ref 101), (1, .long v1), (3, .long v3), (5, .long v5), (7, .int v7), (8, .long w0)]) [1, 2, 3, 4, 5, 0] rfl (pc2 := 41) rfl ?_
  refine e_lload dX12_feed_41 5 rfl (pc2 := 43) rfl ?_
  refine e_bipush (x := 56) dX12_feed_43 (by decide) (pc2 := 45) rfl ?_
  refine e_bipush (x := 8) dX12_feed_45 (by decide) (pc2 := 47) rfl ?_
  refine e_iload dX12_feed_47 4 rfl (pc2 := 49) rfl ?_
  refine e_bipush (x := 7) dX12_feed_49 (by decide) (pc2 := 51) rfl ?_
  refine e_iand dX12_feed_51 (pc2 := 52) rfl ?_
  refine e_imul dX12_feed_52 (pc2 := 53) rfl ?_
  refine e_isub dX12_feed_53 (pc2 := 54) rfl ?_
  refine e_lushr dX12_feed_54 (pc2 := 55) rfl ?_
  refine e_ldc2 dX12_feed_55 lk_X12_197 (pc2 := 58) rfl ?_
  refine e_land dX12_feed_58 (pc2 := 59) rfl ?_
  refine e_l2i dX12_feed_59 (pc2 := 60) rfl ?_
  obtain ⟨x5, ex5, hf⟩ := ltb_s hf
  refine e_istore dX12_feed_60 (by decide) ex5.symm (ls' := [(0, .ref 101), (1, .long v1), (3, .long v3), (5, .long v5), (7, .int v7), (10, .int x5)]) [1, 2, 3, 4, 5, 0] rfl (pc2 := 62) rfl ?_
  refine e_aload_n dX12_feed_62 0 rfl rfl (pc2 := 63) rfl ?_
  refine e_getI fl_X12_199 dX12_feed_63 so_101 (by decide) (pc2 := 66) rfl ?_
  refine e_sipush (x := 1000) dX12_feed_66 (by decide) (pc2 := 69) rfl ?_
  refine e_icmp_ge (tgt := 114) dX12_feed_69 (by decide) (pc2 := 72) rfl (fun c6 => ?_) (fun c6 => ?_)
  · have hf := if_t c6 hf
    obtain ⟨x7, ex7, hf⟩ := ltb_s hf
    refine e_iinc dX12_feed_114 4 rfl (c9 := 1) (by decide) ex7.symm (by decide) (ls' := [(0, .ref 101), (1, .long v1), (3, .long v3), (5, .long v5), (7, .int x7)]) [1, 2, 3, 4, 0] rfl (pc2 := 117) rfl ?_
    refine e_goto (tgt := 8) dX12_feed_117 (by decide) ?_
    exact hk8 x7 s hf
  · have hf := if_f c6 hf
    refine e_iload dX12_feed_72 5 rfl (pc2 := 74) rfl ?_
    refine e_bipush (x := 10) dX12_feed_74 (by decide) (pc2 := 76) rfl ?_
    refine e_icmp_eq (tgt := 93) dX12_feed_76 (by decide) (pc2 := 79) rfl (fun c8 => ?_) (fun c8 => ?_)
    · have hf := if_t c8 hf
      exact t_X12_feed_j93 v1 v3 v5 v7 x5 s _ hk8 hf
    · have hf := if_f c8 hf
      refine e_iload dX12_feed_79 5 rfl (pc2 := 81) rfl ?_
      refine e_bipush (x := 32) dX12_feed_81 (by decide) (pc2 := 83) rfl ?_
      refine e_icmp_lt (tgt := 114) dX12_feed_83 (by decide) (pc2 := 86) rfl (fun c13 => ?_) (fun c13 => ?_)
      · have hf := if_t c13 hf
        obtain ⟨x14, ex14, hf⟩ := ltb_s hf
        refine e_iinc dX12_feed_114 4 rfl (c9 := 1) (by decide) ex14.symm (by decide) (ls' := [(0, .ref 101), (1, .long v1), (3, .long v3), (5, .long v5), (7, .int x14)]) [1, 2, 3, 4, 0] rfl (pc2 := 117) rfl ?_
        refine e_goto (tgt := 8) dX12_feed_117 (by decide) ?_
        exact hk8 x14 s hf
      · have hf := if_f c13 hf
        refine e_iload dX12_feed_86 5 rfl (pc2 := 88) rfl ?_
        refine e_bipush (x := 126) dX12_feed_88 (by decide) (pc2 := 90) rfl ?_
        refine e_icmp_gt (tgt := 114) dX12_feed_90 (by decide) (pc2 := 93) rfl (fun c15 => ?_) (fun c15 => ?_)
        · have hf := if_t c15 hf
          obtain ⟨x16, ex16, hf⟩ := ltb_s hf
          refine e_iinc dX12_feed_114 4 rfl (c9 := 1) (by decide) ex16.symm (by decide) (ls' := [(0, .ref 101), (1, .long v1), (3, .long v3), (5, .long v5), (7, .int x16)]) [1, 2, 3, 4, 0] rfl (pc2 := 117) rfl ?_
          refine e_goto (tgt := 8) dX12_feed_117 (by decide) ?_
          exact hk8 x16 s hf
        · have hf := if_f c15 hf
          exact t_X12_feed_j93 v1 v3 v5 v7 x5 s _ hk8 hf
def f_X12_feed_l8b (v1 : Int64) (v3 : Int64) (v5 : Int64) (v7 : Int32) (k8 : Int32 → HS → Option (Int32 × HS)) (s : HS) : Option (Int32 × HS) :=
  (if 24 ≤ v7 then some (s.1 101 1, s) else (if 8 ≤ v7 then (if 16 ≤ v7 then f_X12_feed_j39 v1 v3 v5 v7 v5 k8 s else f_X12_feed_j39 v1 v3 v5 v7 v3 k8 s) else f_X12_feed_j39 v1 v3 v5 v7 v1 k8 s))
set_option maxRecDepth 20000 in
set_option maxHeartbeats 2000000 in
theorem t_X12_feed_l8b (v1 : Int64) (v3 : Int64) (v5 : Int64) (v7 : Int32) (s : HS) {x : Int32} {t : HS} (k8 : Int32 → HS → Option (Int32 × HS)) (hk8 : ∀ (a7 : Int32) (s : HS), k8 a7 s = some (x, t) → Ev DDX12_feed miX12_feed NF (some (.int x)) NF (hp t) 8 NF [(0, .ref 101), (1, .long v1), (3, .long v3), (5, .long v5), (7, .int a7)] [] (hp s)) (hf : f_X12_feed_l8b v1 v3 v5 v7 k8 s = some (x, t)) : Ev DDX12_feed miX12_feed NF (some (.int x)) NF (hp t) 8 NF [(0, .ref 101), (1, .long v1), (3, .long v3), (5, .long v5), (7, .int v7)] [] (hp s) := by
  refine e_iload dX12_feed_8 4 rfl (pc2 := 10) rfl ?_
  refine e_bipush (x := 24) dX12_feed_10 (by decide) (pc2 := 12) rfl ?_
  refine e_icmp_ge (tgt := 120) dX12_feed_12 (by decide) (pc2 := 15) rfl (fun c2 => ?_) (fun c2 => ?_)
  · have hf := if_t c2 hf
    refine e_aload_n dX12_feed_120 0 rfl rfl (pc2 := 121) rfl ?_
    refine e_getI fl_X12_199 dX12_feed_121 so_101 (by decide) (pc2 := 124) rfl ?_
    cases hf
    exact e_iret rfl dX12_feed_124
  · have hf := if_f c2 hf
    refine e_iload dX12_feed_15 4 rfl (pc2 := 17) rfl ?_
    refine e_bipush (x := 8) dX12_feed_17 (by decide) (pc2 := 19) rfl ?_
    refine e_icmp_ge (tgt := 26) dX12_feed_19 (by decide) (pc2 := 22) rfl (fun c3 => ?_) (fun c3 => ?_)
    · have hf := if_t c3 hf
      refine e_iload dX12_feed_26 4 rfl (pc2 := 28) rfl ?_
      refine e_bipush (x := 16) dX12_feed_28 (by decide) (pc2 := 30) rfl ?_
      refine e_icmp_ge (tgt := 37) dX12_feed_30 (by decide) (pc2 := 33) rfl (fun c4 => ?_) (fun c4 => ?_)
      · have hf := if_t c4 hf
        refine e_lload dX12_feed_37 3 rfl (pc2 := 39) rfl ?_
        exact t_X12_feed_j39 v1 v3 v5 v7 v5 s _ hk8 hf
      · have hf := if_f c4 hf
        refine e_lload_n dX12_feed_33 2 rfl rfl (pc2 := 34) rfl ?_
        refine e_goto (tgt := 39) dX12_feed_34 (by decide) ?_
        exact t_X12_feed_j39 v1 v3 v5 v7 v3 s _ hk8 hf
    · have hf := if_f c3 hf
      refine e_lload_n dX12_feed_22 1 rfl rfl (pc2 := 23) rfl ?_
      refine e_goto (tgt := 39) dX12_feed_23 (by decide) ?_
      exact t_X12_feed_j39 v1 v3 v5 v7 v1 s _ hk8 hf
def f_X12_feed_l8 (v1 : Int64) (v3 : Int64) (v5 : Int64) : Nat → Int32 → HS → Option (Int32 × HS)
  | 0, _, _ => none
  | n + 1, v7, s => f_X12_feed_l8b v1 v3 v5 v7 (f_X12_feed_l8 v1 v3 v5 n)  s
set_option maxRecDepth 20000 in
set_option maxHeartbeats 2000000 in
theorem t_X12_feed_l8 (v1 : Int64) (v3 : Int64) (v5 : Int64) {x : Int32} {t : HS}  : ∀ (n : Nat) (v7 : Int32) (s : HS), f_X12_feed_l8 v1 v3 v5 n v7 s = some (x, t) → Ev DDX12_feed miX12_feed NF (some (.int x)) NF (hp t) 8 NF [(0, .ref 101), (1, .long v1), (3, .long v3), (5, .long v5), (7, .int v7)] [] (hp s) := by
  intro n
  induction n with
  | zero =>
    intro v7 s hf
    have hf : none = some (x, t) := hf
    cases hf
  | succ n ih =>
    intro v7 s hf
    exact t_X12_feed_l8b v1 v3 v5 v7  s _ ih  hf
def f_X12_feed (v1 : Int64) (v3 : Int64) (v5 : Int64) (s : HS) : Option (Int32 × HS) :=
  ltb (sI s 101 0 0) fun s1 => f_X12_feed_l8 v1 v3 v5 FU 0 s1
set_option maxRecDepth 20000 in
set_option maxHeartbeats 2000000 in
theorem t_X12_feed (v1 : Int64) (v3 : Int64) (v5 : Int64) (s : HS) {x : Int32} {t : HS} (hf : f_X12_feed  v1 v3 v5 s = some (x, t)) : Mt DDX12_feed miX12_feed [.ref 101, .long v1, .long v3, .long v5] NF (hp s) (some (.int x)) NF (hp t) := by
  refine Mt.of (by decide +kernel) (Nat.le_refl _) (Nat.le_of_ble_eq_true rfl) ?_
  show Ev DDX12_feed miX12_feed NF (some (.int x)) NF (hp t) 0 NF [(0, .ref 101), (1, .long v1), (3, .long v3), (5, .long v5)] [] (hp s)
  unfold f_X12_feed at hf
  refine e_aload_n dX12_feed_0 0 rfl rfl (pc2 := 1) rfl ?_
  refine e_iconst (x := 0) dX12_feed_1 (by decide) (pc2 := 2) rfl ?_
  obtain ⟨s1, es1, hf⟩ := ltb_s hf
  refine e_putI fl_X12_194 dX12_feed_2 so_101 fn_11_0 (h2 := hp s1) (by rw [es1]; rfl) (pc2 := 5) rfl ?_
  refine e_iconst (x := 0) dX12_feed_5 (by decide) (pc2 := 6) rfl ?_
  refine e_istore dX12_feed_6 (by decide) rfl (ls' := [(0, .ref 101), (1, .long v1), (3, .long v3), (5, .long v5), (7, .int 0)]) [1, 2, 3, 4, 0] rfl (pc2 := 8) rfl ?_
  refine t_X12_feed_l8 v1 v3 v5 FU 0 s1 hf
abbrev DDX12_signAt : Nat := 1
def f_X12_signAt (v1 : Int32) (s : HS) : Option Int32 :=
  (if (s.1 101 3) ≤ v1 then some 0 else gd (inb v1 1000) (some (s.1 102 v1.toNatClampNeg)))
set_option maxRecDepth 20000 in
set_option maxHeartbeats 2000000 in
theorem t_X12_signAt (v1 : Int32) (s : HS) {x : Int32} (hf : f_X12_signAt  v1 s = some x) : Mt DDX12_signAt miX12_signAt [.ref 101, .int v1] NF (hp s) (some (.int x)) NF (hp s) := by
  refine Mt.of (by decide +kernel) (Nat.le_refl _) (Nat.le_of_ble_eq_true rfl) ?_
  show Ev DDX12_signAt miX12_signAt NF (some (.int x)) NF (hp s) 0 NF [(0, .ref 101), (1, .int v1)] [] (hp s)
  unfold f_X12_signAt at hf
  refine e_iload_n dX12_signAt_0 1 rfl rfl (pc2 := 1) rfl ?_
  refine e_aload_n dX12_signAt_1 0 rfl rfl (pc2 := 2) rfl ?_
  refine e_getI fl_X12_202 dX12_signAt_2 so_101 (by decide) (pc2 := 5) rfl ?_
  refine e_icmp_ge (tgt := 17) dX12_signAt_5 (by decide) (pc2 := 8) rfl (fun c1 => ?_) (fun c1 => ?_)
  · have hf := if_t c1 hf
    refine e_iconst (x := 0) dX12_signAt_17 (by decide) (pc2 := 18) rfl ?_
    cases hf
    exact e_iret rfl dX12_signAt_18
  · have hf := if_f c1 hf
    refine e_aload_n dX12_signAt_8 0 rfl rfl (pc2 := 9) rfl ?_
    refine e_getR (r := 102) fl_X12_7 dX12_signAt_9 so_101 (rs_101_2 s.2.2) (by decide) (pc2 := 12) rfl ?_
    refine e_iload_n dX12_signAt_12 1 rfl rfl (pc2 := 13) rfl ?_
    obtain ⟨g2, hf⟩ := gd_some hf
    refine e_iald dX12_signAt_13 sa_102 (inb_v g2) (pc2 := 14) rfl ?_
    refine e_goto (tgt := 18) dX12_signAt_14 (by decide) ?_
    cases hf
    exact e_iret rfl dX12_signAt_18
abbrev DDX12_nextToken : Nat := 2
def f_X12_nextToken_j39 (k0 : HS → Option HS) (s : HS) : Option HS :=
  ltb (sI s 101 4 ((s.1 101 4) + 1)) fun s4 => k0 s4
set_option maxRecDepth 20000 in
set_option maxHeartbeats 2000000 in
theorem t_X12_nextToken_j39  (s : HS) {t : HS} (k0 : HS → Option HS) (hk0 : ∀ (s : HS), k0 s = some t → Ev DDX12_nextToken miX12_nextToken NF none NF (hp t) 0 NF [(0, .ref 101)] [] (hp s)) (hf : f_X12_nextToken_j39 k0 s = some t) : Ev DDX12_nextToken miX12_nextToken NF none NF (hp t) 39 NF [(0, .ref 101)] [] (hp s) := by
  refine e_aload_n dX12_nextToken_39 0 rfl rfl (pc2 := 40) rfl ?_
  refine e_dup dX12_nextToken_40 rfl (pc2 := 41) rfl ?_
  refine e_getI fl_X12_205 dX12_nextToken_41 so_101 (by decide) (pc2 := 44) rfl ?_
  refine e_iconst (x := 1) dX12_nextToken_44 (by decide) (pc2 := 45) rfl ?_
  refine e_iadd dX12_nextToken_45 (pc2 := 46) rfl ?_
  obtain ⟨s4, es4, hf⟩ := ltb_s hf
  refine e_putI fl_X12_205 dX12_nextToken_46 so_101 fn_11_4 (h2 := hp s4) (by rw [es4]; rfl) (pc2 := 49) rfl ?_
  refine e_goto (tgt := 0) dX12_nextToken_49 (by decide) ?_
  exact hk0 s4 hf
def f_X12_nextToken_l0b (k0 : HS → Option HS) (k52 : HS → Option HS) (s : HS) : Option HS :=
  (if (s.1 101 3) ≤ (s.1 101 4) then k52 s else gd (inb (s.1 101 4) 1000) ((if (s.1 102 (s.1 101 4).toNatClampNeg) = 32 then f_X12_nextToken_j39 k0 s else gd (inb (s.1 101 4) 1000) ((if (s.1 102 (s.1 101 4).toNatClampNeg) = 10 then f_X12_nextToken_j39 k0 s else k52 s)))))
set_option maxRecDepth 20000 in
set_option maxHeartbeats 2000000 in
theorem t_X12_nextToken_l0b  (s : HS) {t : HS} (k0 : HS → Option HS) (hk0 : ∀ (s : HS), k0 s = some t → Ev DDX12_nextToken miX12_nextToken NF none NF (hp t) 0 NF [(0, .ref 101)] [] (hp s)) (k52 : HS → Option HS) (hk52 : ∀ (s : HS), k52 s = some t → Ev DDX12_nextToken miX12_nextToken NF none NF (hp t) 52 NF [(0, .ref 101)] [] (hp s)) (hf : f_X12_nextToken_l0b k0 k52 s = some t) : Ev DDX12_nextToken miX12_nextToken NF none NF (hp t) 0 NF [(0, .ref 101)] [] (hp s) := by
  refine e_aload_n dX12_nextToken_0 0 rfl rfl (pc2 := 1) rfl ?_
  refine e_getI fl_X12_205 dX12_nextToken_1 so_101 (by decide) (pc2 := 4) rfl ?_
  refine e_aload_n dX12_nextToken_4 0 rfl rfl (pc2 := 5) rfl ?_
  refine e_getI fl_X12_202 dX12_nextToken_5 so_101 (by decide) (pc2 := 8) rfl ?_
  refine e_icmp_ge (tgt := 52) dX12_nextToken_8 (by decide) (pc2 := 11) rfl (fun c1 => ?_) (fun c1 => ?_)
  · have hf := if_t c1 hf
    exact hk52 s hf
  · have hf := if_f c1 hf
    refine e_aload_n dX12_nextToken_11 0 rfl rfl (pc2 := 12) rfl ?_
    refine e_getR (r := 102) fl_X12_7 dX12_nextToken_12 so_101 (rs_101_2 s.2.2) (by decide) (pc2 := 15) rfl ?_
    refine e_aload_n dX12_nextToken_15 0 rfl rfl (pc2 := 16) rfl ?_
    refine e_getI fl_X12_205 dX12_nextToken_16 so_101 (by decide) (pc2 := 19) rfl ?_
    obtain ⟨g2, hf⟩ := gd_some hf
    refine e_iald dX12_nextToken_19 sa_102 (inb_v g2) (pc2 := 20) rfl ?_
    refine e_bipush (x := 32) dX12_nextToken_20 (by decide) (pc2 := 22) rfl ?_
    refine e_icmp_eq (tgt := 39) dX12_nextToken_22 (by decide) (pc2 := 25) rfl (fun c3 => ?_) (fun c3 => ?_)
    · have hf := if_t c3 hf
      exact t_X12_nextToken_j39 s _ hk0 hf
    · have hf := if_f c3 hf
      refine e_aload_n dX12_nextToken_25 0 rfl rfl (pc2 := 26) rfl ?_
      refine e_getR (r := 102) fl_X12_7 dX12_nextToken_26 so_101 (rs_101_2 s.2.2) (by decide) (pc2 := 29) rfl ?_
      refine e_aload_n dX12_nextToken_29 0 rfl rfl (pc2 := 30) rfl ?_
      refine e_getI fl_X12_205 dX12_nextToken_30 so_101 (by decide) (pc2 := 33) rfl ?_
      obtain ⟨g5, hf⟩ := gd_some hf
      refine e_iald dX12_nextToken_33 sa_102 (inb_v g5) (pc2 := 34) rfl ?_
      refine e_bipush (x := 10) dX12_nextToken_34 (by decide) (pc2 := 36) rfl ?_
      refine e_icmp_ne (tgt := 52) dX12_nextToken_36 (by decide) (pc2 := 39) rfl (fun c6 => ?_) (fun c6 => ?_)
      · have hf := if_f c6 hf
        exact hk52 s hf
      · have hf := if_t c6 hf
        exact t_X12_nextToken_j39 s _ hk0 hf
def f_X12_nextToken_l0 (k52 : HS → Option HS) : Nat → HS → Option HS
  | 0, _ => none
  | n + 1, s => f_X12_nextToken_l0b  (f_X12_nextToken_l0 k52 n) k52 s
set_option maxRecDepth 20000 in
set_option maxHeartbeats 2000000 in
theorem t_X12_nextToken_l0  {t : HS} (k52 : HS → Option HS) (hk52 : ∀ (s : HS), k52 s = some t → Ev DDX12_nextToken miX12_nextToken NF none NF (hp t) 52 NF [(0, .ref 101)] [] (hp s)) : ∀ (n : Nat)  (s : HS), f_X12_nextToken_l0 k52 n s = some t → Ev DDX12_nextToken miX12_nextToken NF none NF (hp t) 0 NF [(0, .ref 101)] [] (hp s) := by
  intro n
  induction n with
  | zero =>
    intro s hf
    have hf : none = some t := hf
    cases hf
  | succ n ih =>
    intro s hf
    exact t_X12_nextToken_l0b   s _ ih _ hk52 hf
def f_X12_nextToken_j345 (v1 : Int32) (s : HS) : Option HS :=
  (if v1 = 45 then ltb (sI s 101 6 3) fun s19 => some s19 else (if v1 < 59 then ltb (sI s 101 6 4) fun s21 => some s21 else (if 61 < v1 then ltb (sI s 101 6 4) fun s23 => some s23 else ltb (sI s 101 6 3) fun s24 => some s24)))
set_option maxRecDepth 20000 in
set_option maxHeartbeats 2000000 in
theorem t_X12_nextToken_j345 (v1 : Int32) (s : HS) {t : HS}  (hf : f_X12_nextToken_j345 v1 s = some t) : Ev DDX12_nextToken miX12_nextToken NF none NF (hp t) 345 NF [(1, .int v1)] [.ref 101] (hp s) := by
  refine e_iload_n dX12_nextToken_345 0 rfl rfl (pc2 := 346) rfl ?_
  refine e_bipush (x := 45) dX12_nextToken_346 (by decide) (pc2 := 348) rfl ?_
  refine e_icmp_eq (tgt := 363) dX12_nextToken_348 (by decide) (pc2 := 351) rfl (fun c18 => ?_) (fun c18 => ?_)
  · have hf := if_t c18 hf
    refine e_iconst (x := 3) dX12_nextToken_363 (by decide) (pc2 := 364) rfl ?_
    refine e_goto (tgt := 368) dX12_nextToken_364 (by decide) ?_
    obtain ⟨s19, es19, hf⟩ := ltb_s hf
    refine e_putI fl_X12_218 dX12_nextToken_368 so_101 fn_11_6 (h2 := hp s19) (by rw [es19]; rfl) (pc2 := 371) rfl ?_
    cases hf
    exact e_vret rfl dX12_nextToken_371
  · have hf := if_f c18 hf
    refine e_iload_n dX12_nextToken_351 0 rfl rfl (pc2 := 352) rfl ?_
    refine e_bipush (x := 59) dX12_nextToken_352 (by decide) (pc2 := 354) rfl ?_
    refine e_icmp_lt (tgt := 367) dX12_nextToken_354 (by decide) (pc2 := 357) rfl (fun c20 => ?_) (fun c20 => ?_)
    · have hf := if_t c20 hf
      refine e_iconst (x := 4) dX12_nextToken_367 (by decide) (pc2 := 368) rfl ?_
      obtain ⟨s21, es21, hf⟩ := ltb_s hf
      refine e_putI fl_X12_218 dX12_nextToken_368 so_101 fn_11_6 (h2 := hp s21) (by rw [es21]; rfl) (pc2 := 371) rfl ?_
      cases hf
      exact e_vret rfl dX12_nextToken_371
    · have hf := if_f c20 hf
      refine e_iload_n dX12_nextToken_357 0 rfl rfl (pc2 := 358) rfl ?_
      refine e_bipush (x := 61) dX12_nextToken_358 (by decide) (pc2 := 360) rfl ?_
      refine e_icmp_gt (tgt := 367) dX12_nextToken_360 (by decide) (pc2 := 363) rfl (fun c22 => ?_) (fun c22 => ?_)
      · have hf := if_t c22 hf
        refine e_iconst (x := 4) dX12_nextToken_367 (by decide) (pc2 := 368) rfl ?_
        obtain ⟨s23, es23, hf⟩ := ltb_s hf
        refine e_putI fl_X12_218 dX12_nextToken_368 so_101 fn_11_6 (h2 := hp s23) (by rw [es23]; rfl) (pc2 := 371) rfl ?_
        cases hf
        exact e_vret rfl dX12_nextToken_371
      · have hf := if_f c22 hf
        refine e_iconst (x := 3) dX12_nextToken_363 (by decide) (pc2 := 364) rfl ?_
        refine e_goto (tgt := 368) dX12_nextToken_364 (by decide) ?_
        obtain ⟨s24, es24, hf⟩ := ltb_s hf
        refine e_putI fl_X12_218 dX12_nextToken_368 so_101 fn_11_6 (h2 := hp s24) (by rw [es24]; rfl) (pc2 := 371) rfl ?_
        cases hf
        exact e_vret rfl dX12_nextToken_371
def f_X12_nextToken_j322 (v1 : Int32) (s : HS) : Option HS :=
  ltb (sI s 101 4 ((s.1 101 4) + 1)) fun s16 => (if v1 < 40 then f_X12_nextToken_j345 v1 s16 else (if v1 ≤ 43 then ltb (sI s16 101 6 3) fun s26 => some s26 else f_X12_nextToken_j345 v1 s16))
set_option maxRecDepth 20000 in
set_option maxHeartbeats 2000000 in
theorem t_X12_nextToken_j322 (v1 : Int32) (s : HS) {t : HS}  (hf : f_X12_nextToken_j322 v1 s = some t) : Ev DDX12_nextToken miX12_nextToken NF none NF (hp t) 322 NF [(0, .ref 101), (1, .int v1)] [] (hp s) := by
  refine e_aload_n dX12_nextToken_322 0 rfl rfl (pc2 := 323) rfl ?_
  refine e_dup dX12_nextToken_323 rfl (pc2 := 324) rfl ?_
  refine e_getI fl_X12_205 dX12_nextToken_324 so_101 (by decide) (pc2 := 327) rfl ?_
  refine e_iconst (x := 1) dX12_nextToken_327 (by decide) (pc2 := 328) rfl ?_
  refine e_iadd dX12_nextToken_328 (pc2 := 329) rfl ?_
  obtain ⟨s16, es16, hf⟩ := ltb_s hf
  refine e_putI fl_X12_205 dX12_nextToken_329 so_101 fn_11_4 (h2 := hp s16) (by rw [es16]; rfl) (pc2 := 332) rfl ?_
  refine e_aload_n dX12_nextToken_332 0 rfl rfl (pc2 := 333) rfl ?_
  refine e_iload_n dX12_nextToken_333 1 rfl rfl (pc2 := 334) rfl ?_
  refine e_bipush (x := 40) dX12_nextToken_334 (by decide) (pc2 := 336) rfl ?_
  refine e_icmp_lt (tgt := 345) dX12_nextToken_336 (by decide) (pc2 := 339) rfl (fun c17 => ?_) (fun c17 => ?_)
  · have hf := if_t c17 hf
    refine ev_sub [1] rfl ?_
    exact t_X12_nextToken_j345 v1 s16 hf
  · have hf := if_f c17 hf
    refine e_iload_n dX12_nextToken_339 1 rfl rfl (pc2 := 340) rfl ?_
    refine e_bipush (x := 43) dX12_nextToken_340 (by decide) (pc2 := 342) rfl ?_
    refine e_icmp_le (tgt := 363) dX12_nextToken_342 (by decide) (pc2 := 345) rfl (fun c25 => ?_) (fun c25 => ?_)
    · have hf := if_t c25 hf
      refine e_iconst (x := 3) dX12_nextToken_363 (by decide) (pc2 := 364) rfl ?_
      refine e_goto (tgt := 368) dX12_nextToken_364 (by decide) ?_
      obtain ⟨s26, es26, hf⟩ := ltb_s hf
      refine e_putI fl_X12_218 dX12_nextToken_368 so_101 fn_11_6 (h2 := hp s26) (by rw [es26]; rfl) (pc2 := 371) rfl ?_
      cases hf
      exact e_vret rfl dX12_nextToken_371
    · have hf := if_f c25 hf
      refine ev_sub [1] rfl ?_
      exact t_X12_nextToken_j345 v1 s16 hf
def f_X12_nextToken_j286 (k224 : HS → Option HS) (s : HS) : Option HS :=
  ltb (sI s 101 4 ((s.1 101 4) + 1)) fun s33 => k224 s33
set_option maxRecDepth 20000 in
set_option maxHeartbeats 2000000 in
theorem t_X12_nextToken_j286  (s : HS) {t : HS} (k224 : HS → Option HS) (hk224 : ∀ (s : HS), k224 s = some t → Ev DDX12_nextToken miX12_nextToken NF none NF (hp t) 224 NF [(0, .ref 101)] [] (hp s)) (hf : f_X12_nextToken_j286 k224 s = some t) : Ev DDX12_nextToken miX12_nextToken NF none NF (hp t) 286 NF [(0, .ref 101)] [] (hp s) := by
  refine e_aload_n dX12_nextToken_286 0 rfl rfl (pc2 := 287) rfl ?_
  refine e_dup dX12_nextToken_287 rfl (pc2 := 288) rfl ?_
  refine e_getI fl_X12_205 dX12_nextToken_288 so_101 (by decide) (pc2 := 291) rfl ?_
  refine e_iconst (x := 1) dX12_nextToken_291 (by decide) (pc2 := 292) rfl ?_
  refine e_iadd dX12_nextToken_292 (pc2 := 293) rfl ?_
  obtain ⟨s33, es33, hf⟩ := ltb_s hf
  refine e_putI fl_X12_205 dX12_nextToken_293 so_101 fn_11_4 (h2 := hp s33) (by rw [es33]; rfl) (pc2 := 296) rfl ?_
  refine e_goto (tgt := 224) dX12_nextToken_296 (by decide) ?_
  exact hk224 s33 hf
def f_X12_nextToken_l224b (k224 : HS → Option HS) (k299 : HS → Option HS) (s : HS) : Option HS :=
  bnd (f_X12_signAt (s.1 101 4) s) fun y28 => (if y28 < 48 then k299 s else bnd (f_X12_signAt (s.1 101 4) s) fun y30 => (if 57 < y30 then k299 s else (if 4 ≤ ((s.1 101 4) - (s.1 101 5)) then f_X12_nextToken_j286 k224 s else bnd (f_X12_signAt (s.1 101 4) s) fun y34 => ltb (sI s 101 8 ((((s.1 101 8) * 10) + y34) - 48)) fun s35 => f_X12_nextToken_j286 k224 s35)))
set_option maxRecDepth 20000 in
set_option maxHeartbeats 2000000 in
theorem t_X12_nextToken_l224b  (s : HS) {t : HS} (k224 : HS → Option HS) (hk224 : ∀ (s : HS), k224 s = some t → Ev DDX12_nextToken miX12_nextToken NF none NF (hp t) 224 NF [(0, .ref 101)] [] (hp s)) (k299 : HS → Option HS) (hk299 : ∀ (s : HS), k299 s = some t → Ev DDX12_nextToken miX12_nextToken NF none NF (hp t) 299 NF [(0, .ref 101)] [] (hp s)) (hf : f_X12_nextToken_l224b k224 k299 s = some t) : Ev DDX12_nextToken miX12_nextToken NF none NF (hp t) 224 NF [(0, .ref 101)] [] (hp s) := by
  refine e_aload_n dX12_nextToken_224 0 rfl rfl (pc2 := 225) rfl ?_
  refine e_aload_n dX12_nextToken_225 0 rfl rfl (pc2 := 226) rfl ?_
  refine e_getI fl_X12_205 dX12_nextToken_226 so_101 (by decide) (pc2 := 229) rfl ?_
  obtain ⟨y28, hy28, hf⟩ := bnd_s hf
  refine e_callVs (t_X12_signAt (s.1 101 4) s hy28) dX12_nextToken_229 cv_X12_221 rfl so_101 rc_11 (by decide) (by first | exact Nat.le_of_ble_eq_true rfl | simp [rva_cat, vc_i, vc_r, vc_l, vc_n]) nn0 rfl (pc2 := 232) rfl ?_
  refine e_bipush (x := 48) dX12_nextToken_232 (by decide) (pc2 := 234) rfl ?_
  refine e_icmp_lt (tgt := 299) dX12_nextToken_234 (by decide) (pc2 := 237) rfl (fun c29 => ?_) (fun c29 => ?_)
  · have hf := if_t c29 hf
    exact hk299 s hf
  · have hf := if_f c29 hf
    refine e_aload_n dX12_nextToken_237 0 rfl rfl (pc2 := 238) rfl ?_
    refine e_aload_n dX12_nextToken_238 0 rfl rfl (pc2 := 239) rfl ?_
    refine e_getI fl_X12_205 dX12_nextToken_239 so_101 (by decide) (pc2 := 242) rfl ?_
    obtain ⟨y30, hy30, hf⟩ := bnd_s hf
    refine e_callVs (t_X12_signAt (s.1 101 4) s hy30) dX12_nextToken_242 cv_X12_221 rfl so_101 rc_11 (by decide) (by first | exact Nat.le_of_ble_eq_true rfl | simp [rva_cat, vc_i, vc_r, vc_l, vc_n]) nn0 rfl (pc2 := 245) rfl ?_
    refine e_bipush (x := 57) dX12_nextToken_245 (by decide) (pc2 := 247) rfl ?_
    refine e_icmp_gt (tgt := 299) dX12_nextToken_247 (by decide) (pc2 := 250) rfl (fun c31 => ?_) (fun c31 => ?_)
    · have hf := if_t c31 hf
      exact hk299 s hf
    · have hf := if_f c31 hf
      refine e_aload_n dX12_nextToken_250 0 rfl rfl (pc2 := 251) rfl ?_
      refine e_getI fl_X12_205 dX12_nextToken_251 so_101 (by decide) (pc2 := 254) rfl ?_
      refine e_aload_n dX12_nextToken_254 0 rfl rfl (pc2 := 255) rfl ?_
      refine e_getI fl_X12_208 dX12_nextToken_255 so_101 (by decide) (pc2 := 258) rfl ?_
      refine e_isub dX12_nextToken_258 (pc2 := 259) rfl ?_
      refine e_iconst (x := 4) dX12_nextToken_259 (by decide) (pc2 := 260) rfl ?_
      refine e_icmp_ge (tgt := 286) dX12_nextToken_260 (by decide) (pc2 := 263) rfl (fun c32 => ?_) (fun c32 => ?_)
      · have hf := if_t c32 hf
        exact t_X12_nextToken_j286 s _ hk224 hf
      · have hf := if_f c32 hf
        refine e_aload_n dX12_nextToken_263 0 rfl rfl (pc2 := 264) rfl ?_
        refine e_aload_n dX12_nextToken_264 0 rfl rfl (pc2 := 265) rfl ?_
        refine e_getI fl_X12_215 dX12_nextToken_265 so_101 (by decide) (pc2 := 268) rfl ?_
        refine e_bipush (x := 10) dX12_nextToken_268 (by decide) (pc2 := 270) rfl ?_
        refine e_imul dX12_nextToken_270 (pc2 := 271) rfl ?_
        refine e_aload_n dX12_nextToken_271 0 rfl rfl (pc2 := 272) rfl ?_
        refine e_aload_n dX12_nextToken_272 0 rfl rfl (pc2 := 273) rfl ?_
        refine e_getI fl_X12_205 dX12_nextToken_273 so_101 (by decide) (pc2 := 276) rfl ?_
        obtain ⟨y34, hy34, hf⟩ := bnd_s hf
        refine e_callVs (t_X12_signAt (s.1 101 4) s hy34) dX12_nextToken_276 cv_X12_221 rfl so_101 rc_11 (by decide) (by first | exact Nat.le_of_ble_eq_true rfl | simp [rva_cat, vc_i, vc_r, vc_l, vc_n]) nn0 rfl (pc2 := 279) rfl ?_
        refine e_iadd dX12_nextToken_279 (pc2 := 280) rfl ?_
        refine e_bipush (x := 48) dX12_nextToken_280 (by decide) (pc2 := 282) rfl ?_
        refine e_isub dX12_nextToken_282 (pc2 := 283) rfl ?_
        obtain ⟨s35, es35, hf⟩ := ltb_s hf
        refine e_putI fl_X12_215 dX12_nextToken_283 so_101 fn_11_8 (h2 := hp s35) (by rw [es35]; rfl) (pc2 := 286) rfl ?_
        exact t_X12_nextToken_j286 s35 _ hk224 hf
def f_X12_nextToken_l224 (k299 : HS → Option HS) : Nat → HS → Option HS
  | 0, _ => none
  | n + 1, s => f_X12_nextToken_l224b  (f_X12_nextToken_l224 k299 n) k299 s
set_option maxRecDepth 20000 in
set_option maxHeartbeats 2000000 in
theorem t_X12_nextToken_l224  {t : HS} (k299 : HS → Option HS) (hk299 : ∀ (s : HS), k299 s = some t → Ev DDX12_nextToken miX12_nextToken NF none NF (hp t) 299 NF [(0, .ref 101)] [] (hp s)) : ∀ (n : Nat)  (s : HS), f_X12_nextToken_l224 k299 n s = some t → Ev DDX12_nextToken miX12_nextToken NF none NF (hp t) 224 NF [(0, .ref 101)] [] (hp s) := by
  intro n
  induction n with
  | zero =>
    intro s hf
    have hf : none = some t := hf
    cases hf
  | succ n ih =>
    intro s hf
    exact t_X12_nextToken_l224b   s _ ih _ hk299 hf
def f_X12_nextToken_j299  (s : HS) : Option HS :=
  (if ((s.1 101 4) - (s.1 101 5)) ≤ 4 then ltb (sI s 101 6 2) fun s38 => some s38 else ltb (sI s 101 6 4) fun s39 => some s39)
set_option maxRecDepth 20000 in
set_option maxHeartbeats 2000000 in
theorem t_X12_nextToken_j299  (s : HS) {t : HS}  (hf : f_X12_nextToken_j299 s = some t) : Ev DDX12_nextToken miX12_nextToken NF none NF (hp t) 299 NF [(0, .ref 101)] [] (hp s) := by
  refine e_aload_n dX12_nextToken_299 0 rfl rfl (pc2 := 300) rfl ?_
  refine e_aload_n dX12_nextToken_300 0 rfl rfl (pc2 := 301) rfl ?_
  refine e_getI fl_X12_205 dX12_nextToken_301 so_101 (by decide) (pc2 := 304) rfl ?_
  refine e_aload_n dX12_nextToken_304 0 rfl rfl (pc2 := 305) rfl ?_
  refine e_getI fl_X12_208 dX12_nextToken_305 so_101 (by decide) (pc2 := 308) rfl ?_
  refine e_isub dX12_nextToken_308 (pc2 := 309) rfl ?_
  refine e_iconst (x := 4) dX12_nextToken_309 (by decide) (pc2 := 310) rfl ?_
  refine e_icmp_le (tgt := 317) dX12_nextToken_310 (by decide) (pc2 := 313) rfl (fun c37 => ?_) (fun c37 => ?_)
  · have hf := if_t c37 hf
    refine e_iconst (x := 2) dX12_nextToken_317 (by decide) (pc2 := 318) rfl ?_
    obtain ⟨s38, es38, hf⟩ := ltb_s hf
    refine e_putI fl_X12_218 dX12_nextToken_318 so_101 fn_11_6 (h2 := hp s38) (by rw [es38]; rfl) (pc2 := 321) rfl ?_
    cases hf
    exact e_vret rfl dX12_nextToken_321
  · have hf := if_f c37 hf
    refine e_iconst (x := 4) dX12_nextToken_313 (by decide) (pc2 := 314) rfl ?_
    refine e_goto (tgt := 318) dX12_nextToken_314 (by decide) ?_
    obtain ⟨s39, es39, hf⟩ := ltb_s hf
    refine e_putI fl_X12_218 dX12_nextToken_318 so_101 fn_11_6 (h2 := hp s39) (by rw [es39]; rfl) (pc2 := 321) rfl ?_
    cases hf
    exact e_vret rfl dX12_nextToken_321
def f_X12_nextToken_j212 (v1 : Int32) (s : HS) : Option HS :=
  (if v1 < 48 then f_X12_nextToken_j322 v1 s else (if 57 < v1 then f_X12_nextToken_j322 v1 s else f_X12_nextToken_l224 (fun s36 => f_X12_nextToken_j299 s36) FU s))
set_option maxRecDepth 20000 in
set_option maxHeartbeats 2000000 in
theorem t_X12_nextToken_j212 (v1 : Int32) (s : HS) {t : HS}  (hf : f_X12_nextToken_j212 v1 s = some t) : Ev DDX12_nextToken miX12_nextToken NF none NF (hp t) 212 NF [(0, .ref 101), (1, .int v1)] [] (hp s) := by
  refine e_iload_n dX12_nextToken_212 1 rfl rfl (pc2 := 213) rfl ?_
  refine e_bipush (x := 48) dX12_nextToken_213 (by decide) (pc2 := 215) rfl ?_
  refine e_icmp_lt (tgt := 322) dX12_nextToken_215 (by decide) (pc2 := 218) rfl (fun c15 => ?_) (fun c15 => ?_)
  · have hf := if_t c15 hf
    exact t_X12_nextToken_j322 v1 s hf
  · have hf := if_f c15 hf
    refine e_iload_n dX12_nextToken_218 1 rfl rfl (pc2 := 219) rfl ?_
    refine e_bipush (x := 57) dX12_nextToken_219 (by decide) (pc2 := 221) rfl ?_
    refine e_icmp_gt (tgt := 322) dX12_nextToken_221 (by decide) (pc2 := 224) rfl (fun c27 => ?_) (fun c27 => ?_)
    · have hf := if_t c27 hf
      exact t_X12_nextToken_j322 v1 s hf
    · have hf := if_f c27 hf
      refine ev_sub [0] rfl ?_
      refine t_X12_nextToken_l224 _ ?_ FU s hf
      · intro s36 hf
        exact t_X12_nextToken_j299 s36 hf
def f_X12_nextToken_j175 (k109 : HS → Option HS) (s : HS) : Option HS :=
  ltb (sI s 101 4 ((s.1 101 4) + 1)) fun s46 => k109 s46
set_option maxRecDepth 20000 in
set_option maxHeartbeats 2000000 in
theorem t_X12_nextToken_j175  (s : HS) {t : HS} (k109 : HS → Option HS) (hk109 : ∀ (s : HS), k109 s = some t → Ev DDX12_nextToken miX12_nextToken NF none NF (hp t) 109 NF [(0, .ref 101)] [] (hp s)) (hf : f_X12_nextToken_j175 k109 s = some t) : Ev DDX12_nextToken miX12_nextToken NF none NF (hp t) 175 NF [(0, .ref 101)] [] (hp s) := by
  refine e_aload_n dX12_nextToken_175 0 rfl rfl (pc2 := 176) rfl ?_
  refine e_dup dX12_nextToken_176 rfl (pc2 := 177) rfl ?_
  refine e_getI fl_X12_205 dX12_nextToken_177 so_101 (by decide) (pc2 := 180) rfl ?_
  refine e_iconst (x := 1) dX12_nextToken_180 (by decide) (pc2 := 181) rfl ?_
  refine e_iadd dX12_nextToken_181 (pc2 := 182) rfl ?_
  obtain ⟨s46, es46, hf⟩ := ltb_s hf
  refine e_putI fl_X12_205 dX12_nextToken_182 so_101 fn_11_4 (h2 := hp s46) (by rw [es46]; rfl) (pc2 := 185) rfl ?_
  refine e_goto (tgt := 109) dX12_nextToken_185 (by decide) ?_
  exact hk109 s46 hf
def f_X12_nextToken_l109b (k109 : HS → Option HS) (k188 : HS → Option HS) (s : HS) : Option HS :=
  bnd (f_X12_signAt (s.1 101 4) s) fun y41 => (if y41 < 97 then k188 s else bnd (f_X12_signAt (s.1 101 4) s) fun y43 => (if 122 < y43 then k188 s else (if 8 ≤ ((s.1 101 4) - (s.1 101 5)) then f_X12_nextToken_j175 k109 s else bnd (f_X12_signAt (s.1 101 4) s) fun y47 => ltb (sL s 101 7 ((((s.2.1 101 7) * 27) + ((y47 : Int32).toInt64)) - 96)) fun s48 => f_X12_nextToken_j175 k109 s48)))
set_option maxRecDepth 20000 in
set_option maxHeartbeats 2000000 in
theorem t_X12_nextToken_l109b  (s : HS) {t : HS} (k109 : HS → Option HS) (hk109 : ∀ (s : HS), k109 s = some t → Ev DDX12_nextToken miX12_nextToken NF none NF (hp t) 109 NF [(0, .ref 101)] [] (hp s)) (k188 : HS → Option HS) (hk188 : ∀ (s : HS), k188 s = some t → Ev DDX12_nextToken miX12_nextToken NF none NF (hp t) 188 NF [(0, .ref 101)] [] (hp s)) (hf : f_X12_nextToken_l109b k109 k188 s = some t) : Ev DDX12_nextToken miX12_nextToken NF none NF (hp t) 109 NF [(0, .ref 101)] [] (hp s) := by
  refine e_aload_n dX12_nextToken_109 0 rfl rfl (pc2 := 110) rfl ?_
  refine e_aload_n dX12_nextToken_110 0 rfl rfl (pc2 := 111) rfl ?_
  refine e_getI fl_X12_205 dX12_nextToken_111 so_101 (by decide) (pc2 := 114) rfl ?_
  obtain ⟨y41, hy41, hf⟩ := bnd_s hf
  refine e_callVs (t_X12_signAt (s.1 101 4) s hy41) dX12_nextToken_114 cv_X12_221 rfl so_101 rc_11 (by decide) (by first | exact Nat.le_of_ble_eq_true rfl | simp [rva_cat, vc_i, vc_r, vc_l, vc_n]) nn0 rfl (pc2 := 117) rfl ?_
  refine e_bipush (x := 97) dX12_nextToken_117 (by decide) (pc2 := 119) rfl ?_
  refine e_icmp_lt (tgt := 188) dX12_nextToken_119 (by decide) (pc2 := 122) rfl (fun c42 => ?_) (fun c42 => ?_)
  · have hf := if_t c42 hf
    exact hk188 s hf
  · have hf := if_f c42 hf
    refine e_aload_n dX12_nextToken_122 0 rfl rfl (pc2 := 123) rfl ?_
    refine e_aload_n dX12_nextToken_123 0 rfl rfl (pc2 := 124) rfl ?_
    refine e_getI fl_X12_205 dX12_nextToken_124 so_101 (by decide) (pc2 := 127) rfl ?_
    obtain ⟨y43, hy43, hf⟩ := bnd_s hf
    refine e_callVs (t_X12_signAt (s.1 101 4) s hy43) dX12_nextToken_127 cv_X12_221 rfl so_101 rc_11 (by decide) (by first | exact Nat.le_of_ble_eq_true rfl | simp [rva_cat, vc_i, vc_r, vc_l, vc_n]) nn0 rfl (pc2 := 130) rfl ?_
    refine e_bipush (x := 122) dX12_nextToken_130 (by decide) (pc2 := 132) rfl ?_
    refine e_icmp_gt (tgt := 188) dX12_nextToken_132 (by decide) (pc2 := 135) rfl (fun c44 => ?_) (fun c44 => ?_)
    · have hf := if_t c44 hf
      exact hk188 s hf
    · have hf := if_f c44 hf
      refine e_aload_n dX12_nextToken_135 0 rfl rfl (pc2 := 136) rfl ?_
      refine e_getI fl_X12_205 dX12_nextToken_136 so_101 (by decide) (pc2 := 139) rfl ?_
      refine e_aload_n dX12_nextToken_139 0 rfl rfl (pc2 := 140) rfl ?_
      refine e_getI fl_X12_208 dX12_nextToken_140 so_101 (by decide) (pc2 := 143) rfl ?_
      refine e_isub dX12_nextToken_143 (pc2 := 144) rfl ?_
      refine e_bipush (x := 8) dX12_nextToken_144 (by decide) (pc2 := 146) rfl ?_
      refine e_icmp_ge (tgt := 175) dX12_nextToken_146 (by decide) (pc2 := 149) rfl (fun c45 => ?_) (fun c45 => ?_)
      · have hf := if_t c45 hf
        exact t_X12_nextToken_j175 s _ hk109 hf
      · have hf := if_f c45 hf
        refine e_aload_n dX12_nextToken_149 0 rfl rfl (pc2 := 150) rfl ?_
        refine e_aload_n dX12_nextToken_150 0 rfl rfl (pc2 := 151) rfl ?_
        refine e_getL fl_X12_211 dX12_nextToken_151 so_101 rfl (pc2 := 154) rfl ?_
        refine e_ldc2 dX12_nextToken_154 lk_X12_225 (pc2 := 157) rfl ?_
        refine e_lmul dX12_nextToken_157 (pc2 := 158) rfl ?_
        refine e_aload_n dX12_nextToken_158 0 rfl rfl (pc2 := 159) rfl ?_
        refine e_aload_n dX12_nextToken_159 0 rfl rfl (pc2 := 160) rfl ?_
        refine e_getI fl_X12_205 dX12_nextToken_160 so_101 (by decide) (pc2 := 163) rfl ?_
        obtain ⟨y47, hy47, hf⟩ := bnd_s hf
        refine e_callVs (t_X12_signAt (s.1 101 4) s hy47) dX12_nextToken_163 cv_X12_221 rfl so_101 rc_11 (by decide) (by first | exact Nat.le_of_ble_eq_true rfl | simp [rva_cat, vc_i, vc_r, vc_l, vc_n]) nn0 rfl (pc2 := 166) rfl ?_
        refine e_i2l dX12_nextToken_166 (pc2 := 167) rfl ?_
        refine e_ladd dX12_nextToken_167 (pc2 := 168) rfl ?_
        refine e_ldc2 dX12_nextToken_168 lk_X12_227 (pc2 := 171) rfl ?_
        refine e_lsub dX12_nextToken_171 (pc2 := 172) rfl ?_
        obtain ⟨s48, es48, hf⟩ := ltb_s hf
        refine e_putL fl_X12_211 dX12_nextToken_172 so_101 fn_11_7 (h2 := hp s48) (by rw [es48]; rfl) (pc2 := 175) rfl ?_
        exact t_X12_nextToken_j175 s48 _ hk109 hf
def f_X12_nextToken_l109 (k188 : HS → Option HS) : Nat → HS → Option HS
  | 0, _ => none
  | n + 1, s => f_X12_nextToken_l109b  (f_X12_nextToken_l109 k188 n) k188 s
set_option maxRecDepth 20000 in
set_option maxHeartbeats 2000000 in
theorem t_X12_nextToken_l109  {t : HS} (k188 : HS → Option HS) (hk188 : ∀ (s : HS), k188 s = some t → Ev DDX12_nextToken miX12_nextToken NF none NF (hp t) 188 NF [(0, .ref 101)] [] (hp s)) : ∀ (n : Nat)  (s : HS), f_X12_nextToken_l109 k188 n s = some t → Ev DDX12_nextToken miX12_nextToken NF none NF (hp t) 109 NF [(0, .ref 101)] [] (hp s) := by
  intro n
  induction n with
  | zero =>
    intro s hf
    have hf : none = some t := hf
    cases hf
  | succ n ih =>
    intro s hf
    exact t_X12_nextToken_l109b   s _ ih _ hk188 hf
def f_X12_nextToken_j188  (s : HS) : Option HS :=
  (if ((s.1 101 4) - (s.1 101 5)) ≤ 8 then ltb (sI s 101 6 1) fun s51 => some s51 else ltb (sI s 101 6 4) fun s52 => some s52)
set_option maxRecDepth 20000 in
set_option maxHeartbeats 2000000 in
theorem t_X12_nextToken_j188  (s : HS) {t : HS}  (hf : f_X12_nextToken_j188 s = some t) : Ev DDX12_nextToken miX12_nextToken NF none NF (hp t) 188 NF [(0, .ref 101)] [] (hp s) := by
  refine e_aload_n dX12_nextToken_188 0 rfl rfl (pc2 := 189) rfl ?_
  refine e_aload_n dX12_nextToken_189 0 rfl rfl (pc2 := 190) rfl ?_
  refine e_getI fl_X12_205 dX12_nextToken_190 so_101 (by decide) (pc2 := 193) rfl ?_
  refine e_aload_n dX12_nextToken_193 0 rfl rfl (pc2 := 194) rfl ?_
  refine e_getI fl_X12_208 dX12_nextToken_194 so_101 (by decide) (pc2 := 197) rfl ?_
  refine e_isub dX12_nextToken_197 (pc2 := 198) rfl ?_
  refine e_bipush (x := 8) dX12_nextToken_198 (by decide) (pc2 := 200) rfl ?_
  refine e_icmp_le (tgt := 207) dX12_nextToken_200 (by decide) (pc2 := 203) rfl (fun c50 => ?_) (fun c50 => ?_)
  · have hf := if_t c50 hf
    refine e_iconst (x := 1) dX12_nextToken_207 (by decide) (pc2 := 208) rfl ?_
    obtain ⟨s51, es51, hf⟩ := ltb_s hf
    refine e_putI fl_X12_218 dX12_nextToken_208 so_101 fn_11_6 (h2 := hp s51) (by rw [es51]; rfl) (pc2 := 211) rfl ?_
    cases hf
    exact e_vret rfl dX12_nextToken_211
  · have hf := if_f c50 hf
    refine e_iconst (x := 4) dX12_nextToken_203 (by decide) (pc2 := 204) rfl ?_
    refine e_goto (tgt := 208) dX12_nextToken_204 (by decide) ?_
    obtain ⟨s52, es52, hf⟩ := ltb_s hf
    refine e_putI fl_X12_218 dX12_nextToken_208 so_101 fn_11_6 (h2 := hp s52) (by rw [es52]; rfl) (pc2 := 211) rfl ?_
    cases hf
    exact e_vret rfl dX12_nextToken_211
def f_X12_nextToken_j52  (s : HS) : Option HS :=
  ltb (sI s 101 5 (s.1 101 4)) fun s8 => ltb (sL s8 101 7 0) fun s9 => ltb (sI s9 101 8 0) fun s10 => (if (s10.1 101 4) = (s10.1 101 3) then ltb (sI s10 101 6 0) fun s53 => some s53 else gd (inb (s10.1 101 4) 1000) (ltb (s10.1 102 (s10.1 101 4).toNatClampNeg) fun x13 => (if x13 < 97 then f_X12_nextToken_j212 x13 s10 else (if 122 < x13 then f_X12_nextToken_j212 x13 s10 else f_X12_nextToken_l109 (fun s49 => f_X12_nextToken_j188 s49) FU s10))))
set_option maxRecDepth 20000 in
set_option maxHeartbeats 2000000 in
theorem t_X12_nextToken_j52  (s : HS) {t : HS}  (hf : f_X12_nextToken_j52 s = some t) : Ev DDX12_nextToken miX12_nextToken NF none NF (hp t) 52 NF [(0, .ref 101)] [] (hp s) := by
  refine e_aload_n dX12_nextToken_52 0 rfl rfl (pc2 := 53) rfl ?_
  refine e_aload_n dX12_nextToken_53 0 rfl rfl (pc2 := 54) rfl ?_
  refine e_getI fl_X12_205 dX12_nextToken_54 so_101 (by decide) (pc2 := 57) rfl ?_
  obtain ⟨s8, es8, hf⟩ := ltb_s hf
  refine e_putI fl_X12_208 dX12_nextToken_57 so_101 fn_11_5 (h2 := hp s8) (by rw [es8]; rfl) (pc2 := 60) rfl ?_
  refine e_aload_n dX12_nextToken_60 0 rfl rfl (pc2 := 61) rfl ?_
  refine e_lconst (x := 0) dX12_nextToken_61 (by decide) (pc2 := 62) rfl ?_
  obtain ⟨s9, es9, hf⟩ := ltb_s hf
  refine e_putL fl_X12_211 dX12_nextToken_62 so_101 fn_11_7 (h2 := hp s9) (by rw [es9]; rfl) (pc2 := 65) rfl ?_
  refine e_aload_n dX12_nextToken_65 0 rfl rfl (pc2 := 66) rfl ?_
  refine e_iconst (x := 0) dX12_nextToken_66 (by decide) (pc2 := 67) rfl ?_
  obtain ⟨s10, es10, hf⟩ := ltb_s hf
  refine e_putI fl_X12_215 dX12_nextToken_67 so_101 fn_11_8 (h2 := hp s10) (by rw [es10]; rfl) (pc2 := 70) rfl ?_
  refine e_aload_n dX12_nextToken_70 0 rfl rfl (pc2 := 71) rfl ?_
  refine e_getI fl_X12_205 dX12_nextToken_71 so_101 (by decide) (pc2 := 74) rfl ?_
  refine e_aload_n dX12_nextToken_74 0 rfl rfl (pc2 := 75) rfl ?_
  refine e_getI fl_X12_202 dX12_nextToken_75 so_101 (by decide) (pc2 := 78) rfl ?_
  refine e_icmp_ne (tgt := 87) dX12_nextToken_78 (by decide) (pc2 := 81) rfl (fun c11 => ?_) (fun c11 => ?_)
  · have hf := if_f c11 hf
    refine e_aload_n dX12_nextToken_87 0 rfl rfl (pc2 := 88) rfl ?_
    refine e_getR (r := 102) fl_X12_7 dX12_nextToken_88 so_101 (rs_101_2 s10.2.2) (by decide) (pc2 := 91) rfl ?_
    refine e_aload_n dX12_nextToken_91 0 rfl rfl (pc2 := 92) rfl ?_
    refine e_getI fl_X12_205 dX12_nextToken_92 so_101 (by decide) (pc2 := 95) rfl ?_
    obtain ⟨g12, hf⟩ := gd_some hf
    refine e_iald dX12_nextToken_95 sa_102 (inb_v g12) (pc2 := 96) rfl ?_
    obtain ⟨x13, ex13, hf⟩ := ltb_s hf
    refine e_istore_n dX12_nextToken_96 rfl (by decide) ex13.symm (ls' := [(0, .ref 101), (1, .int x13)]) [1, 0] rfl (pc2 := 97) rfl ?_
    refine e_iload_n dX12_nextToken_97 1 rfl rfl (pc2 := 98) rfl ?_
    refine e_bipush (x := 97) dX12_nextToken_98 (by decide) (pc2 := 100) rfl ?_
    refine e_icmp_lt (tgt := 212) dX12_nextToken_100 (by decide) (pc2 := 103) rfl (fun c14 => ?_) (fun c14 => ?_)
    · have hf := if_t c14 hf
      exact t_X12_nextToken_j212 x13 s10 hf
    · have hf := if_f c14 hf
      refine e_iload_n dX12_nextToken_103 1 rfl rfl (pc2 := 104) rfl ?_
      refine e_bipush (x := 122) dX12_nextToken_104 (by decide) (pc2 := 106) rfl ?_
      refine e_icmp_gt (tgt := 212) dX12_nextToken_106 (by decide) (pc2 := 109) rfl (fun c40 => ?_) (fun c40 => ?_)
      · have hf := if_t c40 hf
        exact t_X12_nextToken_j212 x13 s10 hf
      · have hf := if_f c40 hf
        refine ev_sub [0] rfl ?_
        refine t_X12_nextToken_l109 _ ?_ FU s10 hf
        · intro s49 hf
          exact t_X12_nextToken_j188 s49 hf
  · have hf := if_t c11 hf
    refine e_aload_n dX12_nextToken_81 0 rfl rfl (pc2 := 82) rfl ?_
    refine e_iconst (x := 0) dX12_nextToken_82 (by decide) (pc2 := 83) rfl ?_
    obtain ⟨s53, es53, hf⟩ := ltb_s hf
    refine e_putI fl_X12_218 dX12_nextToken_83 so_101 fn_11_6 (h2 := hp s53) (by rw [es53]; rfl) (pc2 := 86) rfl ?_
    cases hf
    exact e_vret rfl dX12_nextToken_86
def f_X12_nextToken  (s : HS) : Option HS :=
  f_X12_nextToken_l0 (fun s7 => f_X12_nextToken_j52 s7) FU s
set_option maxRecDepth 20000 in
set_option maxHeartbeats 2000000 in
theorem t_X12_nextToken  (s : HS) {t : HS} (hf : f_X12_nextToken  s = some t) : Mt DDX12_nextToken miX12_nextToken [.ref 101] NF (hp s) none NF (hp t) := by
  refine Mt.of (by decide +kernel) (Nat.le_refl _) (Nat.le_of_ble_eq_true rfl) ?_
  show Ev DDX12_nextToken miX12_nextToken NF none NF (hp t) 0 NF [(0, .ref 101)] [] (hp s)
  unfold f_X12_nextToken at hf
  refine t_X12_nextToken_l0 _ ?_ FU s hf
  · intro s7 hf
    exact t_X12_nextToken_j52 s7 hf
abbrev DDX12_isWord : Nat := 1
def f_X12_isWord (v1 : Int64) (s : HS) : Int32 :=
  (if (s.1 101 6) = 1 then (if (lg_cmp (s.2.1 101 7) v1) = 0 then 1 else 0) else 0)
set_option maxRecDepth 20000 in
set_option maxHeartbeats 2000000 in
theorem t_X12_isWord (v1 : Int64) (s : HS) {x : Int32} (hf : f_X12_isWord  v1 s = x) : Mt DDX12_isWord miX12_isWord [.ref 101, .long v1] NF (hp s) (some (.int x)) NF (hp s) := by
  refine Mt.of (by decide +kernel) (Nat.le_refl _) (Nat.le_of_ble_eq_true rfl) ?_
  show Ev DDX12_isWord miX12_isWord NF (some (.int x)) NF (hp s) 0 NF [(0, .ref 101), (1, .long v1)] [] (hp s)
  unfold f_X12_isWord at hf
  refine e_aload_n dX12_isWord_0 0 rfl rfl (pc2 := 1) rfl ?_
  refine e_getI fl_X12_218 dX12_isWord_1 so_101 (by decide) (pc2 := 4) rfl ?_
  refine e_iconst (x := 1) dX12_isWord_4 (by decide) (pc2 := 5) rfl ?_
  refine e_icmp_ne (tgt := 21) dX12_isWord_5 (by decide) (pc2 := 8) rfl (fun c1 => ?_) (fun c1 => ?_)
  · have hf := if_f c1 hf
    refine e_iconst (x := 0) dX12_isWord_21 (by decide) (pc2 := 22) rfl ?_
    cases hf
    exact e_zret (by decide) rfl dX12_isWord_22
  · have hf := if_t c1 hf
    refine e_aload_n dX12_isWord_8 0 rfl rfl (pc2 := 9) rfl ?_
    refine e_getL fl_X12_211 dX12_isWord_9 so_101 rfl (pc2 := 12) rfl ?_
    refine e_lload_n dX12_isWord_12 1 rfl rfl (pc2 := 13) rfl ?_
    refine e_lcmp dX12_isWord_13 (pc2 := 14) rfl ?_
    refine e_if_ne (tgt := 21) dX12_isWord_14 (by decide) (pc2 := 17) rfl (fun c2 => ?_) (fun c2 => ?_)
    · have hf := if_f c2 hf
      refine e_iconst (x := 0) dX12_isWord_21 (by decide) (pc2 := 22) rfl ?_
      cases hf
      exact e_zret (by decide) rfl dX12_isWord_22
    · have hf := if_t c2 hf
      refine e_iconst (x := 1) dX12_isWord_17 (by decide) (pc2 := 18) rfl ?_
      refine e_goto (tgt := 22) dX12_isWord_18 (by decide) ?_
      cases hf
      exact e_zret (by decide) rfl dX12_isWord_22
abbrev DDX12_isSign : Nat := 1
def f_X12_isSign (v1 : Int32) (s : HS) : Option Int32 :=
  (if (s.1 101 6) = 3 then gd (inb (s.1 101 5) 1000) ((if (s.1 102 (s.1 101 5).toNatClampNeg) = v1 then some 1 else some 0)) else some 0)
set_option maxRecDepth 20000 in
set_option maxHeartbeats 2000000 in
theorem t_X12_isSign (v1 : Int32) (s : HS) {x : Int32} (hf : f_X12_isSign  v1 s = some x) : Mt DDX12_isSign miX12_isSign [.ref 101, .int v1] NF (hp s) (some (.int x)) NF (hp s) := by
  refine Mt.of (by decide +kernel) (Nat.le_refl _) (Nat.le_of_ble_eq_true rfl) ?_
  show Ev DDX12_isSign miX12_isSign NF (some (.int x)) NF (hp s) 0 NF [(0, .ref 101), (1, .int v1)] [] (hp s)
  unfold f_X12_isSign at hf
  refine e_aload_n dX12_isSign_0 0 rfl rfl (pc2 := 1) rfl ?_
  refine e_getI fl_X12_218 dX12_isSign_1 so_101 (by decide) (pc2 := 4) rfl ?_
  refine e_iconst (x := 3) dX12_isSign_4 (by decide) (pc2 := 5) rfl ?_
  refine e_icmp_ne (tgt := 25) dX12_isSign_5 (by decide) (pc2 := 8) rfl (fun c1 => ?_) (fun c1 => ?_)
  · have hf := if_f c1 hf
    refine e_iconst (x := 0) dX12_isSign_25 (by decide) (pc2 := 26) rfl ?_
    cases hf
    exact e_zret (by decide) rfl dX12_isSign_26
  · have hf := if_t c1 hf
    refine e_aload_n dX12_isSign_8 0 rfl rfl (pc2 := 9) rfl ?_
    refine e_getR (r := 102) fl_X12_7 dX12_isSign_9 so_101 (rs_101_2 s.2.2) (by decide) (pc2 := 12) rfl ?_
    refine e_aload_n dX12_isSign_12 0 rfl rfl (pc2 := 13) rfl ?_
    refine e_getI fl_X12_208 dX12_isSign_13 so_101 (by decide) (pc2 := 16) rfl ?_
    obtain ⟨g2, hf⟩ := gd_some hf
    refine e_iald dX12_isSign_16 sa_102 (inb_v g2) (pc2 := 17) rfl ?_
    refine e_iload_n dX12_isSign_17 1 rfl rfl (pc2 := 18) rfl ?_
    refine e_icmp_ne (tgt := 25) dX12_isSign_18 (by decide) (pc2 := 21) rfl (fun c3 => ?_) (fun c3 => ?_)
    · have hf := if_f c3 hf
      refine e_iconst (x := 0) dX12_isSign_25 (by decide) (pc2 := 26) rfl ?_
      cases hf
      exact e_zret (by decide) rfl dX12_isSign_26
    · have hf := if_t c3 hf
      refine e_iconst (x := 1) dX12_isSign_21 (by decide) (pc2 := 22) rfl ?_
      refine e_goto (tgt := 26) dX12_isSign_22 (by decide) ?_
      cases hf
      exact e_zret (by decide) rfl dX12_isSign_26
abbrev DDX12_fails : Nat := 1
def f_X12_fails (v1 : Int32) (s : HS) : Option (Int32 × HS) :=
  ltb (sI s 101 9 (v1 + (16 * (s.1 101 5)))) fun s1 => some (0, s1)
set_option maxRecDepth 20000 in
set_option maxHeartbeats 2000000 in
theorem t_X12_fails (v1 : Int32) (s : HS) {x : Int32} {t : HS} (hf : f_X12_fails  v1 s = some (x, t)) : Mt DDX12_fails miX12_fails [.ref 101, .int v1] NF (hp s) (some (.int x)) NF (hp t) := by
  refine Mt.of (by decide +kernel) (Nat.le_refl _) (Nat.le_of_ble_eq_true rfl) ?_
  show Ev DDX12_fails miX12_fails NF (some (.int x)) NF (hp t) 0 NF [(0, .ref 101), (1, .int v1)] [] (hp s)
  unfold f_X12_fails at hf
  refine e_aload_n dX12_fails_0 0 rfl rfl (pc2 := 1) rfl ?_
  refine e_iload_n dX12_fails_1 1 rfl rfl (pc2 := 2) rfl ?_
  refine e_bipush (x := 16) dX12_fails_2 (by decide) (pc2 := 4) rfl ?_
  refine e_aload_n dX12_fails_4 0 rfl rfl (pc2 := 5) rfl ?_
  refine e_getI fl_X12_208 dX12_fails_5 so_101 (by decide) (pc2 := 8) rfl ?_
  refine e_imul dX12_fails_8 (pc2 := 9) rfl ?_
  refine e_iadd dX12_fails_9 (pc2 := 10) rfl ?_
  obtain ⟨s1, es1, hf⟩ := ltb_s hf
  refine e_putI fl_X12_229 dX12_fails_10 so_101 fn_11_9 (h2 := hp s1) (by rw [es1]; rfl) (pc2 := 13) rfl ?_
  refine e_iconst (x := 0) dX12_fails_13 (by decide) (pc2 := 14) rfl ?_
  cases hf
  exact e_zret (by decide) rfl dX12_fails_14
abbrev DDX12_plain : Nat := 1
def f_X12_plain_l2b (v1 : Int32) (v2 : Int32) (k2 : Int32 → HS → Option HS) (k26 : HS → Option HS) (s : HS) : Option HS :=
  (if 10 ≤ v2 then k26 s else gd (inb ((10 * v1) + v2) 20) (ltb (sI s 103 (((10 * v1) + v2).toNatClampNeg) 0) fun s2 => ltb (v2 + 1) fun x4 => k2 x4 s2))
set_option maxRecDepth 20000 in
set_option maxHeartbeats 2000000 in
theorem t_X12_plain_l2b (v1 : Int32) (v2 : Int32) (s : HS) {t : HS} (k2 : Int32 → HS → Option HS) (hk2 : ∀ (a2 : Int32) (s : HS), k2 a2 s = some t → Ev DDX12_plain miX12_plain NF none NF (hp t) 2 NF [(0, .ref 101), (1, .int v1), (2, .int a2)] [] (hp s)) (k26 : HS → Option HS) (hk26 : ∀ (s : HS), k26 s = some t → Ev DDX12_plain miX12_plain NF none NF (hp t) 26 NF [(0, .ref 101), (1, .int v1)] [] (hp s)) (hf : f_X12_plain_l2b v1 v2 k2 k26 s = some t) : Ev DDX12_plain miX12_plain NF none NF (hp t) 2 NF [(0, .ref 101), (1, .int v1), (2, .int v2)] [] (hp s) := by
  refine e_iload_n dX12_plain_2 2 rfl rfl (pc2 := 3) rfl ?_
  refine e_bipush (x := 10) dX12_plain_3 (by decide) (pc2 := 5) rfl ?_
  refine e_icmp_ge (tgt := 26) dX12_plain_5 (by decide) (pc2 := 8) rfl (fun c1 => ?_) (fun c1 => ?_)
  · have hf := if_t c1 hf
    refine ev_sub [0, 1] rfl ?_
    exact hk26 s hf
  · have hf := if_f c1 hf
    refine e_aload_n dX12_plain_8 0 rfl rfl (pc2 := 9) rfl ?_
    refine e_getR (r := 103) fl_X12_13 dX12_plain_9 so_101 (rs_101_10 s.2.2) (by decide) (pc2 := 12) rfl ?_
    refine e_bipush (x := 10) dX12_plain_12 (by decide) (pc2 := 14) rfl ?_
    refine e_iload_n dX12_plain_14 1 rfl rfl (pc2 := 15) rfl ?_
    refine e_imul dX12_plain_15 (pc2 := 16) rfl ?_
    refine e_iload_n dX12_plain_16 2 rfl rfl (pc2 := 17) rfl ?_
    refine e_iadd dX12_plain_17 (pc2 := 18) rfl ?_
    refine e_iconst (x := 0) dX12_plain_18 (by decide) (pc2 := 19) rfl ?_
    obtain ⟨g3, hf⟩ := gd_some hf
    obtain ⟨s2, es2, hf⟩ := ltb_s hf
    refine e_iast dX12_plain_19 sa_103 (inb_v g3) (h2 := hp s2) (by rw [es2]; rfl) (pc2 := 20) rfl ?_
    obtain ⟨x4, ex4, hf⟩ := ltb_s hf
    refine e_iinc dX12_plain_20 2 rfl (c9 := 1) (by decide) ex4.symm (by decide) (ls' := [(0, .ref 101), (1, .int v1), (2, .int x4)]) [1, 2, 0] rfl (pc2 := 23) rfl ?_
    refine e_goto (tgt := 2) dX12_plain_23 (by decide) ?_
    exact hk2 x4 s2 hf
def f_X12_plain_l2 (v1 : Int32) (k26 : HS → Option HS) : Nat → Int32 → HS → Option HS
  | 0, _, _ => none
  | n + 1, v2, s => f_X12_plain_l2b v1 v2 (f_X12_plain_l2 v1 k26 n) k26 s
set_option maxRecDepth 20000 in
set_option maxHeartbeats 2000000 in
theorem t_X12_plain_l2 (v1 : Int32) {t : HS} (k26 : HS → Option HS) (hk26 : ∀ (s : HS), k26 s = some t → Ev DDX12_plain miX12_plain NF none NF (hp t) 26 NF [(0, .ref 101), (1, .int v1)] [] (hp s)) : ∀ (n : Nat) (v2 : Int32) (s : HS), f_X12_plain_l2 v1 k26 n v2 s = some t → Ev DDX12_plain miX12_plain NF none NF (hp t) 2 NF [(0, .ref 101), (1, .int v1), (2, .int v2)] [] (hp s) := by
  intro n
  induction n with
  | zero =>
    intro v2 s hf
    have hf : none = some t := hf
    cases hf
  | succ n ih =>
    intro v2 s hf
    exact t_X12_plain_l2b v1 v2  s _ ih _ hk26 hf
def f_X12_plain_l123b (v1 : Int32) (v2 : Int32) (k123 : Int32 → HS → Option HS) (k154 : HS → Option HS) (s : HS) : Option HS :=
  (if 4 ≤ v2 then k154 s else (if v2 = 0 then gd (inb ((4 * v1) + v2) 8) (ltb (sI s 119 (((4 * v1) + v2).toNatClampNeg) 10) fun s25 => ltb (v2 + 1) fun x27 => k123 x27 s25) else gd (inb ((4 * v1) + v2) 8) (ltb (sI s 119 (((4 * v1) + v2).toNatClampNeg) 0) fun s22 => ltb (v2 + 1) fun x24 => k123 x24 s22)))
set_option maxRecDepth 20000 in
set_option maxHeartbeats 2000000 in
theorem t_X12_plain_l123b (v1 : Int32) (v2 : Int32) (s : HS) {t : HS} (k123 : Int32 → HS → Option HS) (hk123 : ∀ (a2 : Int32) (s : HS), k123 a2 s = some t → Ev DDX12_plain miX12_plain NF none NF (hp t) 123 NF [(0, .ref 101), (1, .int v1), (2, .int a2)] [] (hp s)) (k154 : HS → Option HS) (hk154 : ∀ (s : HS), k154 s = some t → Ev DDX12_plain miX12_plain NF none NF (hp t) 154 NF [(0, .ref 101), (1, .int v1)] [] (hp s)) (hf : f_X12_plain_l123b v1 v2 k123 k154 s = some t) : Ev DDX12_plain miX12_plain NF none NF (hp t) 123 NF [(0, .ref 101), (1, .int v1), (2, .int v2)] [] (hp s) := by
  refine e_iload_n dX12_plain_123 2 rfl rfl (pc2 := 124) rfl ?_
  refine e_iconst (x := 4) dX12_plain_124 (by decide) (pc2 := 125) rfl ?_
  refine e_icmp_ge (tgt := 154) dX12_plain_125 (by decide) (pc2 := 128) rfl (fun c20 => ?_) (fun c20 => ?_)
  · have hf := if_t c20 hf
    refine ev_sub [0, 1] rfl ?_
    exact hk154 s hf
  · have hf := if_f c20 hf
    refine e_aload_n dX12_plain_128 0 rfl rfl (pc2 := 129) rfl ?_
    refine e_getR (r := 119) fl_X12_62 dX12_plain_129 so_101 (rs_101_26 s.2.2) (by decide) (pc2 := 132) rfl ?_
    refine e_iconst (x := 4) dX12_plain_132 (by decide) (pc2 := 133) rfl ?_
    refine e_iload_n dX12_plain_133 1 rfl rfl (pc2 := 134) rfl ?_
    refine e_imul dX12_plain_134 (pc2 := 135) rfl ?_
    refine e_iload_n dX12_plain_135 2 rfl rfl (pc2 := 136) rfl ?_
    refine e_iadd dX12_plain_136 (pc2 := 137) rfl ?_
    refine e_iload_n dX12_plain_137 2 rfl rfl (pc2 := 138) rfl ?_
    refine e_if_ne (tgt := 146) dX12_plain_138 (by decide) (pc2 := 141) rfl (fun c21 => ?_) (fun c21 => ?_)
    · have hf := if_f c21 hf
      refine e_iconst (x := 0) dX12_plain_146 (by decide) (pc2 := 147) rfl ?_
      obtain ⟨g23, hf⟩ := gd_some hf
      obtain ⟨s22, es22, hf⟩ := ltb_s hf
      refine e_iast dX12_plain_147 sa_119 (inb_v g23) (h2 := hp s22) (by rw [es22]; rfl) (pc2 := 148) rfl ?_
      obtain ⟨x24, ex24, hf⟩ := ltb_s hf
      refine e_iinc dX12_plain_148 2 rfl (c9 := 1) (by decide) ex24.symm (by decide) (ls' := [(0, .ref 101), (1, .int v1), (2, .int x24)]) [1, 2, 0] rfl (pc2 := 151) rfl ?_
      refine e_goto (tgt := 123) dX12_plain_151 (by decide) ?_
      exact hk123 x24 s22 hf
    · have hf := if_t c21 hf
      refine e_bipush (x := 10) dX12_plain_141 (by decide) (pc2 := 143) rfl ?_
      refine e_goto (tgt := 147) dX12_plain_143 (by decide) ?_
      obtain ⟨g26, hf⟩ := gd_some hf
      obtain ⟨s25, es25, hf⟩ := ltb_s hf
      refine e_iast dX12_plain_147 sa_119 (inb_v g26) (h2 := hp s25) (by rw [es25]; rfl) (pc2 := 148) rfl ?_
      obtain ⟨x27, ex27, hf⟩ := ltb_s hf
      refine e_iinc dX12_plain_148 2 rfl (c9 := 1) (by decide) ex27.symm (by decide) (ls' := [(0, .ref 101), (1, .int v1), (2, .int x27)]) [1, 2, 0] rfl (pc2 := 151) rfl ?_
      refine e_goto (tgt := 123) dX12_plain_151 (by decide) ?_
      exact hk123 x27 s25 hf
def f_X12_plain_l123 (v1 : Int32) (k154 : HS → Option HS) : Nat → Int32 → HS → Option HS
  | 0, _, _ => none
  | n + 1, v2, s => f_X12_plain_l123b v1 v2 (f_X12_plain_l123 v1 k154 n) k154 s
set_option maxRecDepth 20000 in
set_option maxHeartbeats 2000000 in
theorem t_X12_plain_l123 (v1 : Int32) {t : HS} (k154 : HS → Option HS) (hk154 : ∀ (s : HS), k154 s = some t → Ev DDX12_plain miX12_plain NF none NF (hp t) 154 NF [(0, .ref 101), (1, .int v1)] [] (hp s)) : ∀ (n : Nat) (v2 : Int32) (s : HS), f_X12_plain_l123 v1 k154 n v2 s = some t → Ev DDX12_plain miX12_plain NF none NF (hp t) 123 NF [(0, .ref 101), (1, .int v1), (2, .int v2)] [] (hp s) := by
  intro n
  induction n with
  | zero =>
    intro v2 s hf
    have hf : none = some t := hf
    cases hf
  | succ n ih =>
    intro v2 s hf
    exact t_X12_plain_l123b v1 v2  s _ ih _ hk154 hf
def f_X12_plain (v1 : Int32) (s : HS) : Option HS :=
  f_X12_plain_l2 v1 (fun s5 => gd (inb ((10 * v1) + 3) 20) (ltb (sI s5 103 (((10 * v1) + 3).toNatClampNeg) 600) fun s6 => gd (inb ((10 * v1) + 4) 20) (ltb (sI s6 103 (((10 * v1) + 4).toNatClampNeg) 540) fun s8 => gd (inb ((10 * v1) + 5) 20) (ltb (sI s8 103 (((10 * v1) + 5).toNatClampNeg) 2) fun s10 => gd (inb ((10 * v1) + 6) 20) (ltb (sI s10 103 (((10 * v1) + 6).toNatClampNeg) 10) fun s12 => gd (inb ((10 * v1) + 7) 20) (ltb (sI s12 103 (((10 * v1) + 7).toNatClampNeg) 60) fun s14 => gd (inb ((10 * v1) + 8) 20) (ltb (sI s14 103 (((10 * v1) + 8).toNatClampNeg) 30) fun s16 => gd (inb ((10 * v1) + 9) 20) (ltb (sI s16 103 (((10 * v1) + 9).toNatClampNeg) 5) fun s18 => f_X12_plain_l123 v1 (fun s28 => gd (inb v1 2) (ltb (sI s28 120 (v1.toNatClampNeg) (1000 * v1)) fun s29 => gd (inb v1 2) (ltb (sI s29 121 (v1.toNatClampNeg) (1000 * v1)) fun s31 => some s31))) FU 0 s18)))))))) FU 0 s
set_option maxRecDepth 20000 in
set_option maxHeartbeats 2000000 in
theorem t_X12_plain (v1 : Int32) (s : HS) {t : HS} (hf : f_X12_plain  v1 s = some t) : Mt DDX12_plain miX12_plain [.ref 101, .int v1] NF (hp s) none NF (hp t) := by
  refine Mt.of (by decide +kernel) (Nat.le_refl _) (Nat.le_of_ble_eq_true rfl) ?_
  show Ev DDX12_plain miX12_plain NF none NF (hp t) 0 NF [(0, .ref 101), (1, .int v1)] [] (hp s)
  unfold f_X12_plain at hf
  refine e_iconst (x := 0) dX12_plain_0 (by decide) (pc2 := 1) rfl ?_
  refine e_istore_n dX12_plain_1 rfl (by decide) rfl (ls' := [(0, .ref 101), (1, .int v1), (2, .int 0)]) [1, 2, 0] rfl (pc2 := 2) rfl ?_
  refine t_X12_plain_l2 v1 _ ?_ FU 0 s hf
  · intro s5 hf
    refine e_aload_n dX12_plain_26 0 rfl rfl (pc2 := 27) rfl ?_
    refine e_getR (r := 103) fl_X12_13 dX12_plain_27 so_101 (rs_101_10 s5.2.2) (by decide) (pc2 := 30) rfl ?_
    refine e_bipush (x := 10) dX12_plain_30 (by decide) (pc2 := 32) rfl ?_
    refine e_iload_n dX12_plain_32 1 rfl rfl (pc2 := 33) rfl ?_
    refine e_imul dX12_plain_33 (pc2 := 34) rfl ?_
    refine e_iconst (x := 3) dX12_plain_34 (by decide) (pc2 := 35) rfl ?_
    refine e_iadd dX12_plain_35 (pc2 := 36) rfl ?_
    refine e_sipush (x := 600) dX12_plain_36 (by decide) (pc2 := 39) rfl ?_
    obtain ⟨g7, hf⟩ := gd_some hf
    obtain ⟨s6, es6, hf⟩ := ltb_s hf
    refine e_iast dX12_plain_39 sa_103 (inb_v g7) (h2 := hp s6) (by rw [es6]; rfl) (pc2 := 40) rfl ?_
    refine e_aload_n dX12_plain_40 0 rfl rfl (pc2 := 41) rfl ?_
    refine e_getR (r := 103) fl_X12_13 dX12_plain_41 so_101 (rs_101_10 s6.2.2) (by decide) (pc2 := 44) rfl ?_
    refine e_bipush (x := 10) dX12_plain_44 (by decide) (pc2 := 46) rfl ?_
    refine e_iload_n dX12_plain_46 1 rfl rfl (pc2 := 47) rfl ?_
    refine e_imul dX12_plain_47 (pc2 := 48) rfl ?_
    refine e_iconst (x := 4) dX12_plain_48 (by decide) (pc2 := 49) rfl ?_
    refine e_iadd dX12_plain_49 (pc2 := 50) rfl ?_
    refine e_sipush (x := 540) dX12_plain_50 (by decide) (pc2 := 53) rfl ?_
    obtain ⟨g9, hf⟩ := gd_some hf
    obtain ⟨s8, es8, hf⟩ := ltb_s hf
    refine e_iast dX12_plain_53 sa_103 (inb_v g9) (h2 := hp s8) (by rw [es8]; rfl) (pc2 := 54) rfl ?_
    refine e_aload_n dX12_plain_54 0 rfl rfl (pc2 := 55) rfl ?_
    refine e_getR (r := 103) fl_X12_13 dX12_plain_55 so_101 (rs_101_10 s8.2.2) (by decide) (pc2 := 58) rfl ?_
    refine e_bipush (x := 10) dX12_plain_58 (by decide) (pc2 := 60) rfl ?_
    refine e_iload_n dX12_plain_60 1 rfl rfl (pc2 := 61) rfl ?_
    refine e_imul dX12_plain_61 (pc2 := 62) rfl ?_
    refine e_iconst (x := 5) dX12_plain_62 (by decide) (pc2 := 63) rfl ?_
    refine e_iadd dX12_plain_63 (pc2 := 64) rfl ?_
    refine e_iconst (x := 2) dX12_plain_64 (by decide) (pc2 := 65) rfl ?_
    obtain ⟨g11, hf⟩ := gd_some hf
    obtain ⟨s10, es10, hf⟩ := ltb_s hf
    refine e_iast dX12_plain_65 sa_103 (inb_v g11) (h2 := hp s10) (by rw [es10]; rfl) (pc2 := 66) rfl ?_
    refine e_aload_n dX12_plain_66 0 rfl rfl (pc2 := 67) rfl ?_
    refine e_getR (r := 103) fl_X12_13 dX12_plain_67 so_101 (rs_101_10 s10.2.2) (by decide) (pc2 := 70) rfl ?_
    refine e_bipush (x := 10) dX12_plain_70 (by decide) (pc2 := 72) rfl ?_
    refine e_iload_n dX12_plain_72 1 rfl rfl (pc2 := 73) rfl ?_
    refine e_imul dX12_plain_73 (pc2 := 74) rfl ?_
    refine e_bipush (x := 6) dX12_plain_74 (by decide) (pc2 := 76) rfl ?_
    refine e_iadd dX12_plain_76 (pc2 := 77) rfl ?_
    refine e_bipush (x := 10) dX12_plain_77 (by decide) (pc2 := 79) rfl ?_
    obtain ⟨g13, hf⟩ := gd_some hf
    obtain ⟨s12, es12, hf⟩ := ltb_s hf
    refine e_iast dX12_plain_79 sa_103 (inb_v g13) (h2 := hp s12) (by rw [es12]; rfl) (pc2 := 80) rfl ?_
    refine e_aload_n dX12_plain_80 0 rfl rfl (pc2 := 81) rfl ?_
    refine e_getR (r := 103) fl_X12_13 dX12_plain_81 so_101 (rs_101_10 s12.2.2) (by decide) (pc2 := 84) rfl ?_
    refine e_bipush (x := 10) dX12_plain_84 (by decide) (pc2 := 86) rfl ?_
    refine e_iload_n dX12_plain_86 1 rfl rfl (pc2 := 87) rfl ?_
    refine e_imul dX12_plain_87 (pc2 := 88) rfl ?_
    refine e_bipush (x := 7) dX12_plain_88 (by decide) (pc2 := 90) rfl ?_
    refine e_iadd dX12_plain_90 (pc2 := 91) rfl ?_
    refine e_bipush (x := 60) dX12_plain_91 (by decide) (pc2 := 93) rfl ?_
    obtain ⟨g15, hf⟩ := gd_some hf
    obtain ⟨s14, es14, hf⟩ := ltb_s hf
    refine e_iast dX12_plain_93 sa_103 (inb_v g15) (h2 := hp s14) (by rw [es14]; rfl) (pc2 := 94) rfl ?_
    refine e_aload_n dX12_plain_94 0 rfl rfl (pc2 := 95) rfl ?_
    refine e_getR (r := 103) fl_X12_13 dX12_plain_95 so_101 (rs_101_10 s14.2.2) (by decide) (pc2 := 98) rfl ?_
    refine e_bipush (x := 10) dX12_plain_98 (by decide) (pc2 := 100) rfl ?_
    refine e_iload_n dX12_plain_100 1 rfl rfl (pc2 := 101) rfl ?_
    refine e_imul dX12_plain_101 (pc2 := 102) rfl ?_
    refine e_bipush (x := 8) dX12_plain_102 (by decide) (pc2 := 104) rfl ?_
    refine e_iadd dX12_plain_104 (pc2 := 105) rfl ?_
    refine e_bipush (x := 30) dX12_plain_105 (by decide) (pc2 := 107) rfl ?_
    obtain ⟨g17, hf⟩ := gd_some hf
    obtain ⟨s16, es16, hf⟩ := ltb_s hf
    refine e_iast dX12_plain_107 sa_103 (inb_v g17) (h2 := hp s16) (by rw [es16]; rfl) (pc2 := 108) rfl ?_
    refine e_aload_n dX12_plain_108 0 rfl rfl (pc2 := 109) rfl ?_
    refine e_getR (r := 103) fl_X12_13 dX12_plain_109 so_101 (rs_101_10 s16.2.2) (by decide) (pc2 := 112) rfl ?_
    refine e_bipush (x := 10) dX12_plain_112 (by decide) (pc2 := 114) rfl ?_
    refine e_iload_n dX12_plain_114 1 rfl rfl (pc2 := 115) rfl ?_
    refine e_imul dX12_plain_115 (pc2 := 116) rfl ?_
    refine e_bipush (x := 9) dX12_plain_116 (by decide) (pc2 := 118) rfl ?_
    refine e_iadd dX12_plain_118 (pc2 := 119) rfl ?_
    refine e_iconst (x := 5) dX12_plain_119 (by decide) (pc2 := 120) rfl ?_
    obtain ⟨g19, hf⟩ := gd_some hf
    obtain ⟨s18, es18, hf⟩ := ltb_s hf
    refine e_iast dX12_plain_120 sa_103 (inb_v g19) (h2 := hp s18) (by rw [es18]; rfl) (pc2 := 121) rfl ?_
    refine e_iconst (x := 0) dX12_plain_121 (by decide) (pc2 := 122) rfl ?_
    refine e_istore_n dX12_plain_122 rfl (by decide) rfl (ls' := [(0, .ref 101), (1, .int v1), (2, .int 0)]) [1, 2, 0] rfl (pc2 := 123) rfl ?_
    refine t_X12_plain_l123 v1 _ ?_ FU 0 s18 hf
    · intro s28 hf
      refine e_aload_n dX12_plain_154 0 rfl rfl (pc2 := 155) rfl ?_
      refine e_getR (r := 120) fl_X12_65 dX12_plain_155 so_101 (rs_101_27 s28.2.2) (by decide) (pc2 := 158) rfl ?_
      refine e_iload_n dX12_plain_158 1 rfl rfl (pc2 := 159) rfl ?_
      refine e_sipush (x := 1000) dX12_plain_159 (by decide) (pc2 := 162) rfl ?_
      refine e_iload_n dX12_plain_162 1 rfl rfl (pc2 := 163) rfl ?_
      refine e_imul dX12_plain_163 (pc2 := 164) rfl ?_
      obtain ⟨g30, hf⟩ := gd_some hf
      obtain ⟨s29, es29, hf⟩ := ltb_s hf
      refine e_iast dX12_plain_164 sa_120 (inb_v g30) (h2 := hp s29) (by rw [es29]; rfl) (pc2 := 165) rfl ?_
      refine e_aload_n dX12_plain_165 0 rfl rfl (pc2 := 166) rfl ?_
      refine e_getR (r := 121) fl_X12_68 dX12_plain_166 so_101 (rs_101_28 s29.2.2) (by decide) (pc2 := 169) rfl ?_
      refine e_iload_n dX12_plain_169 1 rfl rfl (pc2 := 170) rfl ?_
      refine e_sipush (x := 1000) dX12_plain_170 (by decide) (pc2 := 173) rfl ?_
      refine e_iload_n dX12_plain_173 1 rfl rfl (pc2 := 174) rfl ?_
      refine e_imul dX12_plain_174 (pc2 := 175) rfl ?_
      obtain ⟨g32, hf⟩ := gd_some hf
      obtain ⟨s31, es31, hf⟩ := ltb_s hf
      refine e_iast dX12_plain_175 sa_121 (inb_v g32) (h2 := hp s31) (by rw [es31]; rfl) (pc2 := 176) rfl ?_
      cases hf
      exact e_vret rfl dX12_plain_176
abbrev DDX12_puts : Nat := 1
def f_X12_puts (v1 : Int32) (s : HS) : Option HS :=
  gd (inb (s.1 101 30) 2000) (ltb (sI s 122 ((s.1 101 30).toNatClampNeg) v1) fun s1 => ltb (sI s1 101 30 ((s1.1 101 30) + 1)) fun s3 => some s3)
set_option maxRecDepth 20000 in
set_option maxHeartbeats 2000000 in
theorem t_X12_puts (v1 : Int32) (s : HS) {t : HS} (hf : f_X12_puts  v1 s = some t) : Mt DDX12_puts miX12_puts [.ref 101, .int v1] NF (hp s) none NF (hp t) := by
  refine Mt.of (by decide +kernel) (Nat.le_refl _) (Nat.le_of_ble_eq_true rfl) ?_
  show Ev DDX12_puts miX12_puts NF none NF (hp t) 0 NF [(0, .ref 101), (1, .int v1)] [] (hp s)
  unfold f_X12_puts at hf
  refine e_aload_n dX12_puts_0 0 rfl rfl (pc2 := 1) rfl ?_
  refine e_getR (r := 122) fl_X12_71 dX12_puts_1 so_101 (rs_101_29 s.2.2) (by decide) (pc2 := 4) rfl ?_
  refine e_aload_n dX12_puts_4 0 rfl rfl (pc2 := 5) rfl ?_
  refine e_getI fl_X12_232 dX12_puts_5 so_101 (by decide) (pc2 := 8) rfl ?_
  refine e_iload_n dX12_puts_8 1 rfl rfl (pc2 := 9) rfl ?_
  obtain ⟨g2, hf⟩ := gd_some hf
  obtain ⟨s1, es1, hf⟩ := ltb_s hf
  refine e_iast dX12_puts_9 sa_122 (inb_v g2) (h2 := hp s1) (by rw [es1]; rfl) (pc2 := 10) rfl ?_
  refine e_aload_n dX12_puts_10 0 rfl rfl (pc2 := 11) rfl ?_
  refine e_dup dX12_puts_11 rfl (pc2 := 12) rfl ?_
  refine e_getI fl_X12_232 dX12_puts_12 so_101 (by decide) (pc2 := 15) rfl ?_
  refine e_iconst (x := 1) dX12_puts_15 (by decide) (pc2 := 16) rfl ?_
  refine e_iadd dX12_puts_16 (pc2 := 17) rfl ?_
  obtain ⟨s3, es3, hf⟩ := ltb_s hf
  refine e_putI fl_X12_232 dX12_puts_17 so_101 fn_11_30 (h2 := hp s3) (by rw [es3]; rfl) (pc2 := 20) rfl ?_
  cases hf
  exact e_vret rfl dX12_puts_20
abbrev DDX12_fact : Nat := 1
def f_X12_fact  (s : HS) : Int32 :=
  (if (s.1 101 6) = 1 then (if (lg_cmp (s.2.1 101 7) 4419) = 0 then 1 else (if (lg_cmp (s.2.1 101 7) 12249946) = 0 then 2 else (if (lg_cmp (s.2.1 101 7) 3130427) = 0 then 3 else (if (lg_cmp (s.2.1 101 7) 257011) = 0 then 4 else 0)))) else 0)
set_option maxRecDepth 20000 in
set_option maxHeartbeats 2000000 in
theorem t_X12_fact  (s : HS) {x : Int32} (hf : f_X12_fact  s = x) : Mt DDX12_fact miX12_fact [.ref 101] NF (hp s) (some (.int x)) NF (hp s) := by
  refine Mt.of (by decide +kernel) (Nat.le_refl _) (Nat.le_of_ble_eq_true rfl) ?_
  show Ev DDX12_fact miX12_fact NF (some (.int x)) NF (hp s) 0 NF [(0, .ref 101)] [] (hp s)
  unfold f_X12_fact at hf
  refine e_aload_n dX12_fact_0 0 rfl rfl (pc2 := 1) rfl ?_
  refine e_getI fl_X12_218 dX12_fact_1 so_101 (by decide) (pc2 := 4) rfl ?_
  refine e_iconst (x := 1) dX12_fact_4 (by decide) (pc2 := 5) rfl ?_
  refine e_icmp_eq (tgt := 10) dX12_fact_5 (by decide) (pc2 := 8) rfl (fun c1 => ?_) (fun c1 => ?_)
  · have hf := if_t c1 hf
    refine e_aload_n dX12_fact_10 0 rfl rfl (pc2 := 11) rfl ?_
    refine e_getL fl_X12_211 dX12_fact_11 so_101 rfl (pc2 := 14) rfl ?_
    refine e_ldc2 dX12_fact_14 lk_X12_235 (pc2 := 17) rfl ?_
    refine e_lcmp dX12_fact_17 (pc2 := 18) rfl ?_
    refine e_if_ne (tgt := 25) dX12_fact_18 (by decide) (pc2 := 21) rfl (fun c2 => ?_) (fun c2 => ?_)
    · have hf := if_f c2 hf
      refine e_aload_n dX12_fact_25 0 rfl rfl (pc2 := 26) rfl ?_
      refine e_getL fl_X12_211 dX12_fact_26 so_101 rfl (pc2 := 29) rfl ?_
      refine e_ldc2 dX12_fact_29 lk_X12_237 (pc2 := 32) rfl ?_
      refine e_lcmp dX12_fact_32 (pc2 := 33) rfl ?_
      refine e_if_ne (tgt := 40) dX12_fact_33 (by decide) (pc2 := 36) rfl (fun c3 => ?_) (fun c3 => ?_)
      · have hf := if_f c3 hf
        refine e_aload_n dX12_fact_40 0 rfl rfl (pc2 := 41) rfl ?_
        refine e_getL fl_X12_211 dX12_fact_41 so_101 rfl (pc2 := 44) rfl ?_
        refine e_ldc2 dX12_fact_44 lk_X12_239 (pc2 := 47) rfl ?_
        refine e_lcmp dX12_fact_47 (pc2 := 48) rfl ?_
        refine e_if_ne (tgt := 55) dX12_fact_48 (by decide) (pc2 := 51) rfl (fun c4 => ?_) (fun c4 => ?_)
        · have hf := if_f c4 hf
          refine e_aload_n dX12_fact_55 0 rfl rfl (pc2 := 56) rfl ?_
          refine e_getL fl_X12_211 dX12_fact_56 so_101 rfl (pc2 := 59) rfl ?_
          refine e_ldc2 dX12_fact_59 lk_X12_241 (pc2 := 62) rfl ?_
          refine e_lcmp dX12_fact_62 (pc2 := 63) rfl ?_
          refine e_if_ne (tgt := 70) dX12_fact_63 (by decide) (pc2 := 66) rfl (fun c5 => ?_) (fun c5 => ?_)
          · have hf := if_f c5 hf
            refine e_iconst (x := 0) dX12_fact_70 (by decide) (pc2 := 71) rfl ?_
            cases hf
            exact e_iret rfl dX12_fact_71
          · have hf := if_t c5 hf
            refine e_iconst (x := 4) dX12_fact_66 (by decide) (pc2 := 67) rfl ?_
            refine e_goto (tgt := 71) dX12_fact_67 (by decide) ?_
            cases hf
            exact e_iret rfl dX12_fact_71
        · have hf := if_t c4 hf
          refine e_iconst (x := 3) dX12_fact_51 (by decide) (pc2 := 52) rfl ?_
          refine e_goto (tgt := 71) dX12_fact_52 (by decide) ?_
          cases hf
          exact e_iret rfl dX12_fact_71
      · have hf := if_t c3 hf
        refine e_iconst (x := 2) dX12_fact_36 (by decide) (pc2 := 37) rfl ?_
        refine e_goto (tgt := 71) dX12_fact_37 (by decide) ?_
        cases hf
        exact e_iret rfl dX12_fact_71
    · have hf := if_t c2 hf
      refine e_iconst (x := 1) dX12_fact_21 (by decide) (pc2 := 22) rfl ?_
      refine e_goto (tgt := 71) dX12_fact_22 (by decide) ?_
      cases hf
      exact e_iret rfl dX12_fact_71
  · have hf := if_f c1 hf
    refine e_iconst (x := 0) dX12_fact_8 (by decide) (pc2 := 9) rfl ?_
    cases hf
    exact e_iret rfl dX12_fact_9
