abbrev DDX12_errand : Nat := 7
def f_X12_errand_j173 (v1 : Int32) (v2 : Int32) (v3 : Int32) (v4 : Int32) (v5 : Int32) (v6 : Int32) (v7 : Int32) (k53 : Int32 → Int32 → Int32 → Int32 → HS → Option (Int32 × HS)) (s : HS) : Option (Int32 × HS) :=
  ltb (v7 + 1) fun x17 => k53 v4 v5 v6 x17 s
set_option maxRecDepth 20000 in
set_option maxHeartbeats 2000000 in
theorem t_X12_errand_j173 (v1 : Int32) (v2 : Int32) (v3 : Int32) (v4 : Int32) (v5 : Int32) (v6 : Int32) (v7 : Int32) (s : HS) {x : Int32} {t : HS} (k53 : Int32 → Int32 → Int32 → Int32 → HS → Option (Int32 × HS)) (hk53 : ∀ (a4 : Int32) (a5 : Int32) (a6 : Int32) (a7 : Int32) (s : HS), k53 a4 a5 a6 a7 s = some (x, t) → Ev DDX12_errand miX12_errand NF (some (.int x)) NF (hp t) 53 NF [(0, .ref 101), (1, .int v1), (2, .int v2), (3, .int v3), (4, .int a4), (5, .int a5), (6, .int a6), (7, .int a7)] [] (hp s)) (hf : f_X12_errand_j173 v1 v2 v3 v4 v5 v6 v7 k53 s = some (x, t)) : Ev DDX12_errand miX12_errand NF (some (.int x)) NF (hp t) 173 NF [(0, .ref 101), (1, .int v1), (2, .int v2), (3, .int v3), (4, .int v4), (5, .int v5), (6, .int v6), (7, .int v7)] [] (hp s) := by
  obtain ⟨x17, ex17, hf⟩ := ltb_s hf
  refine e_iinc dX12_errand_173 7 rfl (c9 := 1) (by decide) ex17.symm (by decide) (ls' := [(0, .ref 101), (1, .int v1), (2, .int v2), (3, .int v3), (4, .int v4), (5, .int v5), (6, .int v6), (7, .int x17)]) [1, 2, 3, 4, 5, 6, 7, 0] rfl (pc2 := 176) rfl ?_
  refine e_goto (tgt := 53) dX12_errand_176 (by decide) ?_
  exact hk53 v4 v5 v6 x17 s hf
def f_X12_errand_j173_4 (v1 : Int32) (v2 : Int32) (v3 : Int32) (v4 : Int32) (v5 : Int32) (v6 : Int32) (v7 : Int32) (k53 : Int32 → Int32 → Int32 → Int32 → HS → Option (Int32 × HS)) (s : HS) : Option (Int32 × HS) :=
  ltb (v7 + 1) fun x25 => k53 v4 v5 v6 x25 s
set_option maxRecDepth 20000 in
set_option maxHeartbeats 2000000 in
theorem t_X12_errand_j173_4 (v1 : Int32) (v2 : Int32) (v3 : Int32) (v4 : Int32) (v5 : Int32) (v6 : Int32) (v7 : Int32) (s : HS) {x : Int32} {t : HS} (k53 : Int32 → Int32 → Int32 → Int32 → HS → Option (Int32 × HS)) (hk53 : ∀ (a4 : Int32) (a5 : Int32) (a6 : Int32) (a7 : Int32) (s : HS), k53 a4 a5 a6 a7 s = some (x, t) → Ev DDX12_errand miX12_errand NF (some (.int x)) NF (hp t) 53 NF [(0, .ref 101), (1, .int v1), (2, .int v2), (3, .int v3), (4, .int a4), (5, .int a5), (6, .int a6), (7, .int a7)] [] (hp s)) (hf : f_X12_errand_j173_4 v1 v2 v3 v4 v5 v6 v7 k53 s = some (x, t)) : Ev DDX12_errand miX12_errand NF (some (.int x)) NF (hp t) 173 NF [(0, .ref 101), (1, .int v1), (2, .int v2), (3, .int v3), (4, .int v4), (5, .int v5), (6, .int v6), (7, .int v7)] [] (hp s) := by
  obtain ⟨x25, ex25, hf⟩ := ltb_s hf
  refine e_iinc dX12_errand_173 7 rfl (c9 := 1) (by decide) ex25.symm (by decide) (ls' := [(0, .ref 101), (1, .int v1), (2, .int v2), (3, .int v3), (4, .int v4), (5, .int v5), (6, .int v6), (7, .int x25)]) [1, 2, 3, 4, 5, 6, 7, 0] rfl (pc2 := 176) rfl ?_
  refine e_goto (tgt := 53) dX12_errand_176 (by decide) ?_
  exact hk53 v4 v5 v6 x25 s hf
def f_X12_errand_j160 (v1 : Int32) (v2 : Int32) (v3 : Int32) (v4 : Int32) (v7 : Int32) (k53 : Int32 → Int32 → Int32 → Int32 → HS → Option (Int32 × HS)) (s : HS) : Option (Int32 × HS) :=
  gd (inb v7 6) (ltb (s.1 151 v7.toNatClampNeg) fun x24 => f_X12_errand_j173_4 v1 v2 v3 v4 v7 x24 v7 k53 s)
set_option maxRecDepth 20000 in
set_option maxHeartbeats 2000000 in
theorem t_X12_errand_j160 (v1 : Int32) (v2 : Int32) (v3 : Int32) (v4 : Int32) (v7 : Int32) (s : HS) {x : Int32} {t : HS} (k53 : Int32 → Int32 → Int32 → Int32 → HS → Option (Int32 × HS)) (hk53 : ∀ (a4 : Int32) (a5 : Int32) (a6 : Int32) (a7 : Int32) (s : HS), k53 a4 a5 a6 a7 s = some (x, t) → Ev DDX12_errand miX12_errand NF (some (.int x)) NF (hp t) 53 NF [(0, .ref 101), (1, .int v1), (2, .int v2), (3, .int v3), (4, .int a4), (5, .int a5), (6, .int a6), (7, .int a7)] [] (hp s)) (hf : f_X12_errand_j160 v1 v2 v3 v4 v7 k53 s = some (x, t)) : Ev DDX12_errand miX12_errand NF (some (.int x)) NF (hp t) 160 NF [(0, .ref 101), (1, .int v1), (2, .int v2), (3, .int v3), (4, .int v4), (7, .int v7)] [] (hp s) := by
  refine e_iload dX12_errand_160 5 rfl (pc2 := 162) rfl ?_
  refine e_istore dX12_errand_162 (by decide) rfl (ls' := [(0, .ref 101), (1, .int v1), (2, .int v2), (3, .int v3), (4, .int v4), (5, .int v7), (7, .int v7)]) [1, 2, 3, 4, 5, 0, 6] rfl (pc2 := 164) rfl ?_
  refine e_aload_n dX12_errand_164 0 rfl rfl (pc2 := 165) rfl ?_
  refine e_getR (r := 151) fl_X12_166 dX12_errand_165 so_101 (rs_101_68 s.2.2) (by decide) (pc2 := 168) rfl ?_
  refine e_iload dX12_errand_168 6 rfl (pc2 := 170) rfl ?_
  obtain ⟨g23, hf⟩ := gd_some hf
  refine e_iald dX12_errand_170 sa_151 (inb_v g23) (pc2 := 171) rfl ?_
  obtain ⟨x24, ex24, hf⟩ := ltb_s hf
  refine e_istore dX12_errand_171 (by decide) ex24.symm (ls' := [(0, .ref 101), (1, .int v1), (2, .int v2), (3, .int v3), (4, .int v4), (5, .int v7), (6, .int x24), (7, .int v7)]) [1, 2, 3, 4, 5, 6, 0, 7] rfl (pc2 := 173) rfl ?_
  exact t_X12_errand_j173_4 v1 v2 v3 v4 v7 x24 v7 s _ hk53 hf
def f_X12_errand_l53b (v1 : Int32) (v2 : Int32) (v3 : Int32) (v4 : Int32) (v5 : Int32) (v6 : Int32) (v7 : Int32) (k53 : Int32 → Int32 → Int32 → Int32 → HS → Option (Int32 × HS)) (k179 : Int32 → Int32 → Int32 → HS → Option (Int32 × HS)) (s : HS) : Option (Int32 × HS) :=
  (if (s.1 103 2) ≤ v7 then k179 v4 v5 v6 s else (if ((v1 >>> (v7 &&& 31)) &&& (1 : Int32)) = 0 then f_X12_errand_j173 v1 v2 v3 v4 v5 v6 v7 k53 s else ltb (sI s 145 (0) ((v3 &&& (v1 ^^^ ((-1) : Int32))) ||| ((1 : Int32) <<< (v7 &&& 31)))) fun s11 => ltb (sI s11 101 62 v7) fun s12 => bnd (f_X12_runs s12) fun s14 => gd (inb v7 6) ((if (s14.1 151 v7.toNatClampNeg) < 0 then f_X12_errand_j173 v1 v2 v3 v4 v5 v6 v7 k53 s14 else gd (inb v7 6) (bnd (f_X12_goesAt v7 s14) fun y19 => (if (s14.1 151 v7.toNatClampNeg) ≤ y19 then ltb (v4 ||| ((1 : Int32) <<< (v7 &&& 31))) fun x21 => (if v5 < 0 then f_X12_errand_j160 v1 v2 v3 x21 v7 k53 s14 else gd (inb v7 6) ((if (s14.1 151 v7.toNatClampNeg) < v6 then f_X12_errand_j160 v1 v2 v3 x21 v7 k53 s14 else f_X12_errand_j173 v1 v2 v3 x21 v5 v6 v7 k53 s14))) else f_X12_errand_j173 v1 v2 v3 v4 v5 v6 v7 k53 s14))))))
set_option maxRecDepth 20000 in
set_option maxHeartbeats 2000000 in
theorem t_X12_errand_l53b (v1 : Int32) (v2 : Int32) (v3 : Int32) (v4 : Int32) (v5 : Int32) (v6 : Int32) (v7 : Int32) (s : HS) {x : Int32} {t : HS} (k53 : Int32 → Int32 → Int32 → Int32 → HS → Option (Int32 × HS)) (hk53 : ∀ (a4 : Int32) (a5 : Int32) (a6 : Int32) (a7 : Int32) (s : HS), k53 a4 a5 a6 a7 s = some (x, t) → Ev DDX12_errand miX12_errand NF (some (.int x)) NF (hp t) 53 NF [(0, .ref 101), (1, .int v1), (2, .int v2), (3, .int v3), (4, .int a4), (5, .int a5), (6, .int a6), (7, .int a7)] [] (hp s)) (k179 : Int32 → Int32 → Int32 → HS → Option (Int32 × HS)) (hk179 : ∀ (a4 : Int32) (a5 : Int32) (a6 : Int32) (s : HS), k179 a4 a5 a6 s = some (x, t) → Ev DDX12_errand miX12_errand NF (some (.int x)) NF (hp t) 179 NF [(0, .ref 101), (2, .int v2), (3, .int v3), (4, .int a4), (5, .int a5), (6, .int a6)] [] (hp s)) (hf : f_X12_errand_l53b v1 v2 v3 v4 v5 v6 v7 k53 k179 s = some (x, t)) : Ev DDX12_errand miX12_errand NF (some (.int x)) NF (hp t) 53 NF [(0, .ref 101), (1, .int v1), (2, .int v2), (3, .int v3), (4, .int v4), (5, .int v5), (6, .int v6), (7, .int v7)] [] (hp s) := by
  refine e_iload dX12_errand_53 7 rfl (pc2 := 55) rfl ?_
  refine e_aload_n dX12_errand_55 0 rfl rfl (pc2 := 56) rfl ?_
  refine e_getR (r := 103) fl_X12_13 dX12_errand_56 so_101 (rs_101_10 s.2.2) (by decide) (pc2 := 59) rfl ?_
  refine e_iconst (x := 2) dX12_errand_59 (by decide) (pc2 := 60) rfl ?_
  refine e_iald dX12_errand_60 sa_103 (inb_v (by decide)) (pc2 := 61) rfl ?_
  refine e_icmp_ge (tgt := 179) dX12_errand_61 (by decide) (pc2 := 64) rfl (fun c9 => ?_) (fun c9 => ?_)
  · have hf := if_t c9 hf
    refine ev_sub [0, 2, 3, 4, 5, 6] rfl ?_
    exact hk179 v4 v5 v6 s hf
  · have hf := if_f c9 hf
    refine e_iload_n dX12_errand_64 1 rfl rfl (pc2 := 65) rfl ?_
    refine e_iload dX12_errand_65 7 rfl (pc2 := 67) rfl ?_
    refine e_ishr dX12_errand_67 (pc2 := 68) rfl ?_
    refine e_iconst (x := 1) dX12_errand_68 (by decide) (pc2 := 69) rfl ?_
    refine e_iand dX12_errand_69 (pc2 := 70) rfl ?_
    refine e_if_ne (tgt := 76) dX12_errand_70 (by decide) (pc2 := 73) rfl (fun c10 => ?_) (fun c10 => ?_)
    · have hf := if_f c10 hf
      refine e_aload_n dX12_errand_76 0 rfl rfl (pc2 := 77) rfl ?_
      refine e_getR (r := 145) fl_X12_141 dX12_errand_77 so_101 (rs_101_55 s.2.2) (by decide) (pc2 := 80) rfl ?_
      refine e_iconst (x := 0) dX12_errand_80 (by decide) (pc2 := 81) rfl ?_
      refine e_iload_n dX12_errand_81 3 rfl rfl (pc2 := 82) rfl ?_
      refine e_iload_n dX12_errand_82 1 rfl rfl (pc2 := 83) rfl ?_
      refine e_iconst (x := (-1)) dX12_errand_83 (by decide) (pc2 := 84) rfl ?_
      refine e_ixor dX12_errand_84 (pc2 := 85) rfl ?_
      refine e_iand dX12_errand_85 (pc2 := 86) rfl ?_
      refine e_iconst (x := 1) dX12_errand_86 (by decide) (pc2 := 87) rfl ?_
      refine e_iload dX12_errand_87 7 rfl (pc2 := 89) rfl ?_
      refine e_ishl dX12_errand_89 (pc2 := 90) rfl ?_
      refine e_ior dX12_errand_90 (pc2 := 91) rfl ?_
      obtain ⟨s11, es11, hf⟩ := ltb_s hf
      refine e_iast dX12_errand_91 sa_145 (inb_v (by decide)) (h2 := hp s11) (by rw [es11]; rfl) (pc2 := 92) rfl ?_
      refine e_aload_n dX12_errand_92 0 rfl rfl (pc2 := 93) rfl ?_
      refine e_iload dX12_errand_93 7 rfl (pc2 := 95) rfl ?_
      obtain ⟨s12, es12, hf⟩ := ltb_s hf
      refine e_putI fl_X12_156 dX12_errand_95 so_101 fn_11_62 (h2 := hp s12) (by rw [es12]; rfl) (pc2 := 98) rfl ?_
      refine e_aload_n dX12_errand_98 0 rfl rfl (pc2 := 99) rfl ?_
      obtain ⟨s14, hy13, hf⟩ := bnd_s hf
      refine e_callVn (t_X12_runs  s12 hy13) dX12_errand_99 cv_X12_528 rfl so_101 rc_11 (by decide) (by first | exact Nat.le_of_ble_eq_true rfl | simp [rva_cat, vc_i, vc_r, vc_l, vc_n]) nn0 rfl (pc2 := 102) rfl ?_
      refine e_aload_n dX12_errand_102 0 rfl rfl (pc2 := 103) rfl ?_
      refine e_getR (r := 151) fl_X12_166 dX12_errand_103 so_101 (rs_101_68 s14.2.2) (by decide) (pc2 := 106) rfl ?_
      refine e_iload dX12_errand_106 7 rfl (pc2 := 108) rfl ?_
      obtain ⟨g15, hf⟩ := gd_some hf
      refine e_iald dX12_errand_108 sa_151 (inb_v g15) (pc2 := 109) rfl ?_
      refine e_if_lt (tgt := 173) dX12_errand_109 (by decide) (pc2 := 112) rfl (fun c16 => ?_) (fun c16 => ?_)
      · have hf := if_t c16 hf
        exact t_X12_errand_j173 v1 v2 v3 v4 v5 v6 v7 s14 _ hk53 hf
      · have hf := if_f c16 hf
        refine e_aload_n dX12_errand_112 0 rfl rfl (pc2 := 113) rfl ?_
        refine e_getR (r := 151) fl_X12_166 dX12_errand_113 so_101 (rs_101_68 s14.2.2) (by decide) (pc2 := 116) rfl ?_
        refine e_iload dX12_errand_116 7 rfl (pc2 := 118) rfl ?_
        obtain ⟨g18, hf⟩ := gd_some hf
        refine e_iald dX12_errand_118 sa_151 (inb_v g18) (pc2 := 119) rfl ?_
        refine e_aload_n dX12_errand_119 0 rfl rfl (pc2 := 120) rfl ?_
        refine e_iload dX12_errand_120 7 rfl (pc2 := 122) rfl ?_
        obtain ⟨y19, hy19, hf⟩ := bnd_s hf
        refine e_callVs (t_X12_goesAt v7 s14 hy19) dX12_errand_122 cv_X12_482 rfl so_101 rc_11 (by decide) (by first | exact Nat.le_of_ble_eq_true rfl | simp [rva_cat, vc_i, vc_r, vc_l, vc_n]) nn0 rfl (pc2 := 125) rfl ?_
        refine e_icmp_le (tgt := 131) dX12_errand_125 (by decide) (pc2 := 128) rfl (fun c20 => ?_) (fun c20 => ?_)
        · have hf := if_t c20 hf
          refine e_iload dX12_errand_131 4 rfl (pc2 := 133) rfl ?_
          refine e_iconst (x := 1) dX12_errand_133 (by decide) (pc2 := 134) rfl ?_
          refine e_iload dX12_errand_134 7 rfl (pc2 := 136) rfl ?_
          refine e_ishl dX12_errand_136 (pc2 := 137) rfl ?_
          refine e_ior dX12_errand_137 (pc2 := 138) rfl ?_
          obtain ⟨x21, ex21, hf⟩ := ltb_s hf
          refine e_istore dX12_errand_138 (by decide) ex21.symm (ls' := [(0, .ref 101), (1, .int v1), (2, .int v2), (3, .int v3), (4, .int x21), (5, .int v5), (6, .int v6), (7, .int v7)]) [1, 2, 3, 4, 0, 5, 6, 7] rfl (pc2 := 140) rfl ?_
          refine e_iload dX12_errand_140 5 rfl (pc2 := 142) rfl ?_
          refine e_if_lt (tgt := 160) dX12_errand_142 (by decide) (pc2 := 145) rfl (fun c22 => ?_) (fun c22 => ?_)
          · have hf := if_t c22 hf
            refine ev_sub [0, 1, 2, 3, 4, 7] rfl ?_
            exact t_X12_errand_j160 v1 v2 v3 x21 v7 s14 _ hk53 hf
          · have hf := if_f c22 hf
            refine e_aload_n dX12_errand_145 0 rfl rfl (pc2 := 146) rfl ?_
            refine e_getR (r := 151) fl_X12_166 dX12_errand_146 so_101 (rs_101_68 s14.2.2) (by decide) (pc2 := 149) rfl ?_
            refine e_iload dX12_errand_149 7 rfl (pc2 := 151) rfl ?_
            obtain ⟨g26, hf⟩ := gd_some hf
            refine e_iald dX12_errand_151 sa_151 (inb_v g26) (pc2 := 152) rfl ?_
            refine e_iload dX12_errand_152 6 rfl (pc2 := 154) rfl ?_
            refine e_icmp_lt (tgt := 160) dX12_errand_154 (by decide) (pc2 := 157) rfl (fun c27 => ?_) (fun c27 => ?_)
            · have hf := if_t c27 hf
              refine ev_sub [0, 1, 2, 3, 4, 7] rfl ?_
              exact t_X12_errand_j160 v1 v2 v3 x21 v7 s14 _ hk53 hf
            · have hf := if_f c27 hf
              refine e_goto (tgt := 173) dX12_errand_157 (by decide) ?_
              exact t_X12_errand_j173 v1 v2 v3 x21 v5 v6 v7 s14 _ hk53 hf
        · have hf := if_f c20 hf
          refine e_goto (tgt := 173) dX12_errand_128 (by decide) ?_
          exact t_X12_errand_j173 v1 v2 v3 v4 v5 v6 v7 s14 _ hk53 hf
    · have hf := if_t c10 hf
      refine e_goto (tgt := 173) dX12_errand_73 (by decide) ?_
      exact t_X12_errand_j173 v1 v2 v3 v4 v5 v6 v7 s _ hk53 hf
def f_X12_errand_l53 (v1 : Int32) (v2 : Int32) (v3 : Int32) (k179 : Int32 → Int32 → Int32 → HS → Option (Int32 × HS)) : Nat → Int32 → Int32 → Int32 → Int32 → HS → Option (Int32 × HS)
  | 0, _, _, _, _, _ => none
  | n + 1, v4, v5, v6, v7, s => f_X12_errand_l53b v1 v2 v3 v4 v5 v6 v7 (f_X12_errand_l53 v1 v2 v3 k179 n) k179 s
set_option maxRecDepth 20000 in
set_option maxHeartbeats 2000000 in
theorem t_X12_errand_l53 (v1 : Int32) (v2 : Int32) (v3 : Int32) {x : Int32} {t : HS} (k179 : Int32 → Int32 → Int32 → HS → Option (Int32 × HS)) (hk179 : ∀ (a4 : Int32) (a5 : Int32) (a6 : Int32) (s : HS), k179 a4 a5 a6 s = some (x, t) → Ev DDX12_errand miX12_errand NF (some (.int x)) NF (hp t) 179 NF [(0, .ref 101), (2, .int v2), (3, .int v3), (4, .int a4), (5, .int a5), (6, .int a6)] [] (hp s)) : ∀ (n : Nat) (v4 : Int32) (v5 : Int32) (v6 : Int32) (v7 : Int32) (s : HS), f_X12_errand_l53 v1 v2 v3 k179 n v4 v5 v6 v7 s = some (x, t) → Ev DDX12_errand miX12_errand NF (some (.int x)) NF (hp t) 53 NF [(0, .ref 101), (1, .int v1), (2, .int v2), (3, .int v3), (4, .int v4), (5, .int v5), (6, .int v6), (7, .int v7)] [] (hp s) := by
  intro n
  induction n with
  | zero =>
    intro v4 v5 v6 v7 s hf
    have hf : none = some (x, t) := hf
    cases hf
  | succ n ih =>
    intro v4 v5 v6 v7 s hf
    exact t_X12_errand_l53b v1 v2 v3 v4 v5 v6 v7  s _ ih _ hk179 hf
def f_X12_errand (v1 : Int32) (v2 : Int32) (s : HS) : Option (Int32 × HS) :=
  ltb (sI s 101 0 0) fun s1 => (if v1 < 1 then some ((-1), s1) else (if (f_X12_allBuyers s1) < v1 then some ((-1), s1) else (if (f_X12_within v2 0 2 s1) = 0 then some ((-1), s1) else ltb (s1.1 145 0) fun x6 => ltb (sI s1 101 63 v1) fun s7 => f_X12_errand_l53 v1 v2 x6 (fun v28 v29 v30 s31 => ltb (sI s31 101 62 (-1)) fun s32 => ltb (sI s32 145 (0) x6) fun s33 => (if v2 = 0 then some (v28, s33) else (if 0 ≤ v29 then (if v2 = 1 then some (v29, s33) else some (v30, s33)) else some ((-1), s33)))) FU 0 (-1) 0 0 s7)))
set_option maxRecDepth 20000 in
set_option maxHeartbeats 2000000 in
theorem t_X12_errand (v1 : Int32) (v2 : Int32) (s : HS) {x : Int32} {t : HS} (hf : f_X12_errand  v1 v2 s = some (x, t)) : Mt DDX12_errand miX12_errand [.ref 101, .int v1, .int v2] NF (hp s) (some (.int x)) NF (hp t) := by
  refine Mt.of (by decide +kernel) (Nat.le_refl _) (Nat.le_of_ble_eq_true rfl) ?_
  show Ev DDX12_errand miX12_errand NF (some (.int x)) NF (hp t) 0 NF [(0, .ref 101), (1, .int v1), (2, .int v2)] [] (hp s)
  unfold f_X12_errand at hf
  refine e_aload_n dX12_errand_0 0 rfl rfl (pc2 := 1) rfl ?_
  refine e_iconst (x := 0) dX12_errand_1 (by decide) (pc2 := 2) rfl ?_
  obtain ⟨s1, es1, hf⟩ := ltb_s hf
  refine e_putI fl_X12_194 dX12_errand_2 so_101 fn_11_0 (h2 := hp s1) (by rw [es1]; rfl) (pc2 := 5) rfl ?_
  refine e_iload_n dX12_errand_5 1 rfl rfl (pc2 := 6) rfl ?_
  refine e_iconst (x := 1) dX12_errand_6 (by decide) (pc2 := 7) rfl ?_
  refine e_icmp_lt (tgt := 27) dX12_errand_7 (by decide) (pc2 := 10) rfl (fun c2 => ?_) (fun c2 => ?_)
  · have hf := if_t c2 hf
    refine e_iconst (x := (-1)) dX12_errand_27 (by decide) (pc2 := 28) rfl ?_
    cases hf
    exact e_iret rfl dX12_errand_28
  · have hf := if_f c2 hf
    refine e_iload_n dX12_errand_10 1 rfl rfl (pc2 := 11) rfl ?_
    refine e_aload_n dX12_errand_11 0 rfl rfl (pc2 := 12) rfl ?_
    refine e_callVs (t_X12_allBuyers  s1 rfl) dX12_errand_12 cv_X12_558 rfl so_101 rc_11 (by decide) (by first | exact Nat.le_of_ble_eq_true rfl | simp [rva_cat, vc_i, vc_r, vc_l, vc_n]) nn0 rfl (pc2 := 15) rfl ?_
    refine e_icmp_gt (tgt := 27) dX12_errand_15 (by decide) (pc2 := 18) rfl (fun c3 => ?_) (fun c3 => ?_)
    · have hf := if_t c3 hf
      refine e_iconst (x := (-1)) dX12_errand_27 (by decide) (pc2 := 28) rfl ?_
      cases hf
      exact e_iret rfl dX12_errand_28
    · have hf := if_f c3 hf
      refine e_iload_n dX12_errand_18 2 rfl rfl (pc2 := 19) rfl ?_
      refine e_iconst (x := 0) dX12_errand_19 (by decide) (pc2 := 20) rfl ?_
      refine e_iconst (x := 2) dX12_errand_20 (by decide) (pc2 := 21) rfl ?_
      refine e_callSs (t_X12_within v2 0 2 s1 rfl) dX12_errand_21 cs_X12_343 rfl (by decide) (by first | exact Nat.le_of_ble_eq_true rfl | simp [rva_cat, vc_i, vc_r, vc_l, vc_n]) nn0 rfl (pc2 := 24) rfl ?_
      refine e_if_ne (tgt := 29) dX12_errand_24 (by decide) (pc2 := 27) rfl (fun c4 => ?_) (fun c4 => ?_)
      · have hf := if_f c4 hf
        refine e_aload_n dX12_errand_29 0 rfl rfl (pc2 := 30) rfl ?_
        refine e_getR (r := 145) fl_X12_141 dX12_errand_30 so_101 (rs_101_55 s1.2.2) (by decide) (pc2 := 33) rfl ?_
        refine e_iconst (x := 0) dX12_errand_33 (by decide) (pc2 := 34) rfl ?_
        refine e_iald dX12_errand_34 sa_145 (inb_v (by decide)) (pc2 := 35) rfl ?_
        obtain ⟨x6, ex6, hf⟩ := ltb_s hf
        refine e_istore_n dX12_errand_35 rfl (by decide) ex6.symm (ls' := [(0, .ref 101), (1, .int v1), (2, .int v2), (3, .int x6)]) [1, 2, 3, 0] rfl (pc2 := 36) rfl ?_
        refine e_iconst (x := 0) dX12_errand_36 (by decide) (pc2 := 37) rfl ?_
        refine e_istore dX12_errand_37 (by decide) rfl (ls' := [(0, .ref 101), (1, .int v1), (2, .int v2), (3, .int x6), (4, .int 0)]) [1, 2, 3, 4, 0] rfl (pc2 := 39) rfl ?_
        refine e_iconst (x := (-1)) dX12_errand_39 (by decide) (pc2 := 40) rfl ?_
        refine e_istore dX12_errand_40 (by decide) rfl (ls' := [(0, .ref 101), (1, .int v1), (2, .int v2), (3, .int x6), (4, .int 0), (5, .int (-1))]) [1, 2, 3, 4, 5, 0] rfl (pc2 := 42) rfl ?_
        refine e_iconst (x := 0) dX12_errand_42 (by decide) (pc2 := 43) rfl ?_
        refine e_istore dX12_errand_43 (by decide) rfl (ls' := [(0, .ref 101), (1, .int v1), (2, .int v2), (3, .int x6), (4, .int 0), (5, .int (-1)), (6, .int 0)]) [1, 2, 3, 4, 5, 6, 0] rfl (pc2 := 45) rfl ?_
        refine e_aload_n dX12_errand_45 0 rfl rfl (pc2 := 46) rfl ?_
        refine e_iload_n dX12_errand_46 1 rfl rfl (pc2 := 47) rfl ?_
        obtain ⟨s7, es7, hf⟩ := ltb_s hf
        refine e_putI fl_X12_458 dX12_errand_47 so_101 fn_11_63 (h2 := hp s7) (by rw [es7]; rfl) (pc2 := 50) rfl ?_
        refine e_iconst (x := 0) dX12_errand_50 (by decide) (pc2 := 51) rfl ?_
        refine e_istore dX12_errand_51 (by decide) rfl (ls' := [(0, .ref 101), (1, .int v1), (2, .int v2), (3, .int x6), (4, .int 0), (5, .int (-1)), (6, .int 0), (7, .int 0)]) [1, 2, 3, 4, 5, 6, 7, 0] rfl (pc2 := 53) rfl ?_
        refine t_X12_errand_l53 v1 v2 x6 _ ?_ FU 0 (-1) 0 0 s7 hf
        · intro v28 v29 v30 s31 hf
          refine e_aload_n dX12_errand_179 0 rfl rfl (pc2 := 180) rfl ?_
          refine e_iconst (x := (-1)) dX12_errand_180 (by decide) (pc2 := 181) rfl ?_
          obtain ⟨s32, es32, hf⟩ := ltb_s hf
          refine e_putI fl_X12_156 dX12_errand_181 so_101 fn_11_62 (h2 := hp s32) (by rw [es32]; rfl) (pc2 := 184) rfl ?_
          refine e_aload_n dX12_errand_184 0 rfl rfl (pc2 := 185) rfl ?_
          refine e_getR (r := 145) fl_X12_141 dX12_errand_185 so_101 (rs_101_55 s32.2.2) (by decide) (pc2 := 188) rfl ?_
          refine e_iconst (x := 0) dX12_errand_188 (by decide) (pc2 := 189) rfl ?_
          refine e_iload_n dX12_errand_189 2 rfl rfl (pc2 := 190) rfl ?_
          obtain ⟨s33, es33, hf⟩ := ltb_s hf
          refine e_iast dX12_errand_190 sa_145 (inb_v (by decide)) (h2 := hp s33) (by rw [es33]; rfl) (pc2 := 191) rfl ?_
          refine e_iload_n dX12_errand_191 1 rfl rfl (pc2 := 192) rfl ?_
          refine e_if_ne (tgt := 198) dX12_errand_192 (by decide) (pc2 := 195) rfl (fun c34 => ?_) (fun c34 => ?_)
          · have hf := if_f c34 hf
            refine e_iload dX12_errand_198 4 rfl (pc2 := 200) rfl ?_
            refine e_if_ge (tgt := 207) dX12_errand_200 (by decide) (pc2 := 203) rfl (fun c35 => ?_) (fun c35 => ?_)
            · have hf := if_t c35 hf
              refine e_iload_n dX12_errand_207 1 rfl rfl (pc2 := 208) rfl ?_
              refine e_iconst (x := 1) dX12_errand_208 (by decide) (pc2 := 209) rfl ?_
              refine e_icmp_ne (tgt := 217) dX12_errand_209 (by decide) (pc2 := 212) rfl (fun c36 => ?_) (fun c36 => ?_)
              · have hf := if_f c36 hf
                refine e_iload dX12_errand_217 5 rfl (pc2 := 219) rfl ?_
                cases hf
                exact e_iret rfl dX12_errand_219
              · have hf := if_t c36 hf
                refine e_iload dX12_errand_212 4 rfl (pc2 := 214) rfl ?_
                refine e_goto (tgt := 219) dX12_errand_214 (by decide) ?_
                cases hf
                exact e_iret rfl dX12_errand_219
            · have hf := if_f c35 hf
              refine e_iconst (x := (-1)) dX12_errand_203 (by decide) (pc2 := 204) rfl ?_
              refine e_goto (tgt := 219) dX12_errand_204 (by decide) ?_
              cases hf
              exact e_iret rfl dX12_errand_219
          · have hf := if_t c34 hf
            refine e_iload dX12_errand_195 3 rfl (pc2 := 197) rfl ?_
            cases hf
            exact e_iret rfl dX12_errand_197
      · have hf := if_t c4 hf
        refine e_iconst (x := (-1)) dX12_errand_27 (by decide) (pc2 := 28) rfl ?_
        cases hf
        exact e_iret rfl dX12_errand_28
abbrev DDX12_table : Nat := 7
def f_X12_table (v1 : Int32) (v2 : Int32) (s : HS) : Option (Int32 × HS) :=
  ltb (sI s 101 0 0) fun s1 => (if (f_X12_within v1 1 2 s1) = 0 then some ((-1), s1) else (if (f_X12_within v2 0 2 s1) = 0 then some ((-1), s1) else ltb (s1.1 145 3) fun x5 => ltb (sI s1 145 (3) v1) fun s6 => ltb (sI s6 101 61 v2) fun s7 => bnd (f_X12_runs s7) fun s9 => ltb (sI s9 101 61 0) fun s10 => ltb (sI s10 145 (3) x5) fun s11 => bnd (f_X12_drunkInAll s11) fun y12 => some (y12, s11)))
set_option maxRecDepth 20000 in
set_option maxHeartbeats 2000000 in
theorem t_X12_table (v1 : Int32) (v2 : Int32) (s : HS) {x : Int32} {t : HS} (hf : f_X12_table  v1 v2 s = some (x, t)) : Mt DDX12_table miX12_table [.ref 101, .int v1, .int v2] NF (hp s) (some (.int x)) NF (hp t) := by
  refine Mt.of (by decide +kernel) (Nat.le_refl _) (Nat.le_of_ble_eq_true rfl) ?_
  show Ev DDX12_table miX12_table NF (some (.int x)) NF (hp t) 0 NF [(0, .ref 101), (1, .int v1), (2, .int v2)] [] (hp s)
  unfold f_X12_table at hf
  refine e_aload_n dX12_table_0 0 rfl rfl (pc2 := 1) rfl ?_
  refine e_iconst (x := 0) dX12_table_1 (by decide) (pc2 := 2) rfl ?_
  obtain ⟨s1, es1, hf⟩ := ltb_s hf
  refine e_putI fl_X12_194 dX12_table_2 so_101 fn_11_0 (h2 := hp s1) (by rw [es1]; rfl) (pc2 := 5) rfl ?_
  refine e_iload_n dX12_table_5 1 rfl rfl (pc2 := 6) rfl ?_
  refine e_iconst (x := 1) dX12_table_6 (by decide) (pc2 := 7) rfl ?_
  refine e_iconst (x := 2) dX12_table_7 (by decide) (pc2 := 8) rfl ?_
  refine e_callSs (t_X12_within v1 1 2 s1 rfl) dX12_table_8 cs_X12_343 rfl (by decide) (by first | exact Nat.le_of_ble_eq_true rfl | simp [rva_cat, vc_i, vc_r, vc_l, vc_n]) nn0 rfl (pc2 := 11) rfl ?_
  refine e_if_eq (tgt := 23) dX12_table_11 (by decide) (pc2 := 14) rfl (fun c2 => ?_) (fun c2 => ?_)
  · have hf := if_t c2 hf
    refine e_iconst (x := (-1)) dX12_table_23 (by decide) (pc2 := 24) rfl ?_
    cases hf
    exact e_iret rfl dX12_table_24
  · have hf := if_f c2 hf
    refine e_iload_n dX12_table_14 2 rfl rfl (pc2 := 15) rfl ?_
    refine e_iconst (x := 0) dX12_table_15 (by decide) (pc2 := 16) rfl ?_
    refine e_iconst (x := 2) dX12_table_16 (by decide) (pc2 := 17) rfl ?_
    refine e_callSs (t_X12_within v2 0 2 s1 rfl) dX12_table_17 cs_X12_343 rfl (by decide) (by first | exact Nat.le_of_ble_eq_true rfl | simp [rva_cat, vc_i, vc_r, vc_l, vc_n]) nn0 rfl (pc2 := 20) rfl ?_
    refine e_if_ne (tgt := 25) dX12_table_20 (by decide) (pc2 := 23) rfl (fun c3 => ?_) (fun c3 => ?_)
    · have hf := if_f c3 hf
      refine e_aload_n dX12_table_25 0 rfl rfl (pc2 := 26) rfl ?_
      refine e_getR (r := 145) fl_X12_141 dX12_table_26 so_101 (rs_101_55 s1.2.2) (by decide) (pc2 := 29) rfl ?_
      refine e_iconst (x := 3) dX12_table_29 (by decide) (pc2 := 30) rfl ?_
      refine e_iald dX12_table_30 sa_145 (inb_v (by decide)) (pc2 := 31) rfl ?_
      obtain ⟨x5, ex5, hf⟩ := ltb_s hf
      refine e_istore_n dX12_table_31 rfl (by decide) ex5.symm (ls' := [(0, .ref 101), (1, .int v1), (2, .int v2), (3, .int x5)]) [1, 2, 3, 0] rfl (pc2 := 32) rfl ?_
      refine e_aload_n dX12_table_32 0 rfl rfl (pc2 := 33) rfl ?_
      refine e_getR (r := 145) fl_X12_141 dX12_table_33 so_101 (rs_101_55 s1.2.2) (by decide) (pc2 := 36) rfl ?_
      refine e_iconst (x := 3) dX12_table_36 (by decide) (pc2 := 37) rfl ?_
      refine e_iload_n dX12_table_37 1 rfl rfl (pc2 := 38) rfl ?_
      obtain ⟨s6, es6, hf⟩ := ltb_s hf
      refine e_iast dX12_table_38 sa_145 (inb_v (by decide)) (h2 := hp s6) (by rw [es6]; rfl) (pc2 := 39) rfl ?_
      refine e_aload_n dX12_table_39 0 rfl rfl (pc2 := 40) rfl ?_
      refine e_iload_n dX12_table_40 2 rfl rfl (pc2 := 41) rfl ?_
      obtain ⟨s7, es7, hf⟩ := ltb_s hf
      refine e_putI fl_X12_470 dX12_table_41 so_101 fn_11_61 (h2 := hp s7) (by rw [es7]; rfl) (pc2 := 44) rfl ?_
      refine e_aload_n dX12_table_44 0 rfl rfl (pc2 := 45) rfl ?_
      obtain ⟨s9, hy8, hf⟩ := bnd_s hf
      refine e_callVn (t_X12_runs  s7 hy8) dX12_table_45 cv_X12_528 rfl so_101 rc_11 (by decide) (by first | exact Nat.le_of_ble_eq_true rfl | simp [rva_cat, vc_i, vc_r, vc_l, vc_n]) nn0 rfl (pc2 := 48) rfl ?_
      refine e_aload_n dX12_table_48 0 rfl rfl (pc2 := 49) rfl ?_
      refine e_iconst (x := 0) dX12_table_49 (by decide) (pc2 := 50) rfl ?_
      obtain ⟨s10, es10, hf⟩ := ltb_s hf
      refine e_putI fl_X12_470 dX12_table_50 so_101 fn_11_61 (h2 := hp s10) (by rw [es10]; rfl) (pc2 := 53) rfl ?_
      refine e_aload_n dX12_table_53 0 rfl rfl (pc2 := 54) rfl ?_
      refine e_getR (r := 145) fl_X12_141 dX12_table_54 so_101 (rs_101_55 s10.2.2) (by decide) (pc2 := 57) rfl ?_
      refine e_iconst (x := 3) dX12_table_57 (by decide) (pc2 := 58) rfl ?_
      refine e_iload_n dX12_table_58 3 rfl rfl (pc2 := 59) rfl ?_
      obtain ⟨s11, es11, hf⟩ := ltb_s hf
      refine e_iast dX12_table_59 sa_145 (inb_v (by decide)) (h2 := hp s11) (by rw [es11]; rfl) (pc2 := 60) rfl ?_
      refine e_aload_n dX12_table_60 0 rfl rfl (pc2 := 61) rfl ?_
      obtain ⟨y12, hy12, hf⟩ := bnd_s hf
      refine e_callVs (t_X12_drunkInAll  s11 hy12) dX12_table_61 cv_X12_540 rfl so_101 rc_11 (by decide) (by first | exact Nat.le_of_ble_eq_true rfl | simp [rva_cat, vc_i, vc_r, vc_l, vc_n]) nn0 rfl (pc2 := 64) rfl ?_
      cases hf
      exact e_iret rfl dX12_table_64
    · have hf := if_t c3 hf
      refine e_iconst (x := (-1)) dX12_table_23 (by decide) (pc2 := 24) rfl ?_
      cases hf
      exact e_iret rfl dX12_table_24
abbrev DDX12_stand : Nat := 7
def f_X12_stand_l19b (v1 : Int32) (v2 : Int32) (v3 : Int32) (v4 : Int32) (k19 : Int32 → Int32 → Int32 → HS → Option (Int32 × HS)) (k64 : Int32 → HS → Option (Int32 × HS)) (s : HS) : Option (Int32 × HS) :=
  (if 200 < v4 then k64 v2 s else ltb (sI s 145 (2) v4) fun s5 => bnd (f_X12_runs s5) fun s7 => bnd (f_X12_drunkInAll s7) fun y8 => (if v3 < y8 then bnd (f_X12_drunkInAll s7) fun y10 => ltb (v4 + 10) fun x11 => k19 v4 y10 x11 s7 else ltb (v4 + 10) fun x12 => k19 v2 v3 x12 s7))
set_option maxRecDepth 20000 in
set_option maxHeartbeats 2000000 in
theorem t_X12_stand_l19b (v1 : Int32) (v2 : Int32) (v3 : Int32) (v4 : Int32) (s : HS) {x : Int32} {t : HS} (k19 : Int32 → Int32 → Int32 → HS → Option (Int32 × HS)) (hk19 : ∀ (a2 : Int32) (a3 : Int32) (a4 : Int32) (s : HS), k19 a2 a3 a4 s = some (x, t) → Ev DDX12_stand miX12_stand NF (some (.int x)) NF (hp t) 19 NF [(0, .ref 101), (1, .int v1), (2, .int a2), (3, .int a3), (4, .int a4)] [] (hp s)) (k64 : Int32 → HS → Option (Int32 × HS)) (hk64 : ∀ (a2 : Int32) (s : HS), k64 a2 s = some (x, t) → Ev DDX12_stand miX12_stand NF (some (.int x)) NF (hp t) 64 NF [(0, .ref 101), (1, .int v1), (2, .int a2)] [] (hp s)) (hf : f_X12_stand_l19b v1 v2 v3 v4 k19 k64 s = some (x, t)) : Ev DDX12_stand miX12_stand NF (some (.int x)) NF (hp t) 19 NF [(0, .ref 101), (1, .int v1), (2, .int v2), (3, .int v3), (4, .int v4)] [] (hp s) := by
  refine e_iload dX12_stand_19 4 rfl (pc2 := 21) rfl ?_
  refine e_sipush (x := 200) dX12_stand_21 (by decide) (pc2 := 24) rfl ?_
  refine e_icmp_gt (tgt := 64) dX12_stand_24 (by decide) (pc2 := 27) rfl (fun c4 => ?_) (fun c4 => ?_)
  · have hf := if_t c4 hf
    refine ev_sub [0, 1, 2] rfl ?_
    exact hk64 v2 s hf
  · have hf := if_f c4 hf
    refine e_aload_n dX12_stand_27 0 rfl rfl (pc2 := 28) rfl ?_
    refine e_getR (r := 145) fl_X12_141 dX12_stand_28 so_101 (rs_101_55 s.2.2) (by decide) (pc2 := 31) rfl ?_
    refine e_iconst (x := 2) dX12_stand_31 (by decide) (pc2 := 32) rfl ?_
    refine e_iload dX12_stand_32 4 rfl (pc2 := 34) rfl ?_
    obtain ⟨s5, es5, hf⟩ := ltb_s hf
    refine e_iast dX12_stand_34 sa_145 (inb_v (by decide)) (h2 := hp s5) (by rw [es5]; rfl) (pc2 := 35) rfl ?_
    refine e_aload_n dX12_stand_35 0 rfl rfl (pc2 := 36) rfl ?_
    obtain ⟨s7, hy6, hf⟩ := bnd_s hf
    refine e_callVn (t_X12_runs  s5 hy6) dX12_stand_36 cv_X12_528 rfl so_101 rc_11 (by decide) (by first | exact Nat.le_of_ble_eq_true rfl | simp [rva_cat, vc_i, vc_r, vc_l, vc_n]) nn0 rfl (pc2 := 39) rfl ?_
    refine e_aload_n dX12_stand_39 0 rfl rfl (pc2 := 40) rfl ?_
    obtain ⟨y8, hy8, hf⟩ := bnd_s hf
    refine e_callVs (t_X12_drunkInAll  s7 hy8) dX12_stand_40 cv_X12_540 rfl so_101 rc_11 (by decide) (by first | exact Nat.le_of_ble_eq_true rfl | simp [rva_cat, vc_i, vc_r, vc_l, vc_n]) nn0 rfl (pc2 := 43) rfl ?_
    refine e_iload_n dX12_stand_43 3 rfl rfl (pc2 := 44) rfl ?_
    refine e_icmp_gt (tgt := 50) dX12_stand_44 (by decide) (pc2 := 47) rfl (fun c9 => ?_) (fun c9 => ?_)
    · have hf := if_t c9 hf
      refine e_aload_n dX12_stand_50 0 rfl rfl (pc2 := 51) rfl ?_
      obtain ⟨y10, hy10, hf⟩ := bnd_s hf
      refine e_callVs (t_X12_drunkInAll  s7 hy10) dX12_stand_51 cv_X12_540 rfl so_101 rc_11 (by decide) (by first | exact Nat.le_of_ble_eq_true rfl | simp [rva_cat, vc_i, vc_r, vc_l, vc_n]) nn0 rfl (pc2 := 54) rfl ?_
      refine e_istore_n dX12_stand_54 rfl (by decide) rfl (ls' := [(0, .ref 101), (1, .int v1), (3, .int y10), (4, .int v4)]) [1, 2, 0, 4] rfl (pc2 := 55) rfl ?_
      refine e_iload dX12_stand_55 3 rfl (pc2 := 57) rfl ?_
      refine e_istore_n dX12_stand_57 rfl (by decide) rfl (ls' := [(0, .ref 101), (1, .int v1), (2, .int v4), (3, .int y10), (4, .int v4)]) [1, 2, 0, 3, 4] rfl (pc2 := 58) rfl ?_
      obtain ⟨x11, ex11, hf⟩ := ltb_s hf
      refine e_iinc dX12_stand_58 4 rfl (c9 := 10) (by decide) ex11.symm (by decide) (ls' := [(0, .ref 101), (1, .int v1), (2, .int v4), (3, .int y10), (4, .int x11)]) [1, 2, 3, 4, 0] rfl (pc2 := 61) rfl ?_
      refine e_goto (tgt := 19) dX12_stand_61 (by decide) ?_
      exact hk19 v4 y10 x11 s7 hf
    · have hf := if_f c9 hf
      refine e_goto (tgt := 58) dX12_stand_47 (by decide) ?_
      obtain ⟨x12, ex12, hf⟩ := ltb_s hf
      refine e_iinc dX12_stand_58 4 rfl (c9 := 10) (by decide) ex12.symm (by decide) (ls' := [(0, .ref 101), (1, .int v1), (2, .int v2), (3, .int v3), (4, .int x12)]) [1, 2, 3, 4, 0] rfl (pc2 := 61) rfl ?_
      refine e_goto (tgt := 19) dX12_stand_61 (by decide) ?_
      exact hk19 v2 v3 x12 s7 hf
def f_X12_stand_l19 (v1 : Int32) (k64 : Int32 → HS → Option (Int32 × HS)) : Nat → Int32 → Int32 → Int32 → HS → Option (Int32 × HS)
  | 0, _, _, _, _ => none
  | n + 1, v2, v3, v4, s => f_X12_stand_l19b v1 v2 v3 v4 (f_X12_stand_l19 v1 k64 n) k64 s
set_option maxRecDepth 20000 in
set_option maxHeartbeats 2000000 in
theorem t_X12_stand_l19 (v1 : Int32) {x : Int32} {t : HS} (k64 : Int32 → HS → Option (Int32 × HS)) (hk64 : ∀ (a2 : Int32) (s : HS), k64 a2 s = some (x, t) → Ev DDX12_stand miX12_stand NF (some (.int x)) NF (hp t) 64 NF [(0, .ref 101), (1, .int v1), (2, .int a2)] [] (hp s)) : ∀ (n : Nat) (v2 : Int32) (v3 : Int32) (v4 : Int32) (s : HS), f_X12_stand_l19 v1 k64 n v2 v3 v4 s = some (x, t) → Ev DDX12_stand miX12_stand NF (some (.int x)) NF (hp t) 19 NF [(0, .ref 101), (1, .int v1), (2, .int v2), (3, .int v3), (4, .int v4)] [] (hp s) := by
  intro n
  induction n with
  | zero =>
    intro v2 v3 v4 s hf
    have hf : none = some (x, t) := hf
    cases hf
  | succ n ih =>
    intro v2 v3 v4 s hf
    exact t_X12_stand_l19b v1 v2 v3 v4  s _ ih _ hk64 hf
def f_X12_stand  (s : HS) : Option (Int32 × HS) :=
  ltb (sI s 101 0 0) fun s1 => ltb (s1.1 145 2) fun x3 => f_X12_stand_l19 x3 (fun v13 s14 => ltb (sI s14 145 (2) x3) fun s15 => some (v13, s15)) FU 0 (-1) 0 s1
set_option maxRecDepth 20000 in
set_option maxHeartbeats 2000000 in
theorem t_X12_stand  (s : HS) {x : Int32} {t : HS} (hf : f_X12_stand  s = some (x, t)) : Mt DDX12_stand miX12_stand [.ref 101] NF (hp s) (some (.int x)) NF (hp t) := by
  refine Mt.of (by decide +kernel) (Nat.le_refl _) (Nat.le_of_ble_eq_true rfl) ?_
  show Ev DDX12_stand miX12_stand NF (some (.int x)) NF (hp t) 0 NF [(0, .ref 101)] [] (hp s)
  unfold f_X12_stand at hf
  refine e_aload_n dX12_stand_0 0 rfl rfl (pc2 := 1) rfl ?_
  refine e_iconst (x := 0) dX12_stand_1 (by decide) (pc2 := 2) rfl ?_
  obtain ⟨s1, es1, hf⟩ := ltb_s hf
  refine e_putI fl_X12_194 dX12_stand_2 so_101 fn_11_0 (h2 := hp s1) (by rw [es1]; rfl) (pc2 := 5) rfl ?_
  refine e_aload_n dX12_stand_5 0 rfl rfl (pc2 := 6) rfl ?_
  refine e_getR (r := 145) fl_X12_141 dX12_stand_6 so_101 (rs_101_55 s1.2.2) (by decide) (pc2 := 9) rfl ?_
  refine e_iconst (x := 2) dX12_stand_9 (by decide) (pc2 := 10) rfl ?_
  refine e_iald dX12_stand_10 sa_145 (inb_v (by decide)) (pc2 := 11) rfl ?_
  obtain ⟨x3, ex3, hf⟩ := ltb_s hf
  refine e_istore_n dX12_stand_11 rfl (by decide) ex3.symm (ls' := [(0, .ref 101), (1, .int x3)]) [1, 0] rfl (pc2 := 12) rfl ?_
  refine e_iconst (x := 0) dX12_stand_12 (by decide) (pc2 := 13) rfl ?_
  refine e_istore_n dX12_stand_13 rfl (by decide) rfl (ls' := [(0, .ref 101), (1, .int x3), (2, .int 0)]) [1, 2, 0] rfl (pc2 := 14) rfl ?_
  refine e_iconst (x := (-1)) dX12_stand_14 (by decide) (pc2 := 15) rfl ?_
  refine e_istore_n dX12_stand_15 rfl (by decide) rfl (ls' := [(0, .ref 101), (1, .int x3), (2, .int 0), (3, .int (-1))]) [1, 2, 3, 0] rfl (pc2 := 16) rfl ?_
  refine e_iconst (x := 0) dX12_stand_16 (by decide) (pc2 := 17) rfl ?_
  refine e_istore dX12_stand_17 (by decide) rfl (ls' := [(0, .ref 101), (1, .int x3), (2, .int 0), (3, .int (-1)), (4, .int 0)]) [1, 2, 3, 4, 0] rfl (pc2 := 19) rfl ?_
  refine t_X12_stand_l19 x3 _ ?_ FU 0 (-1) 0 s1 hf
  · intro v13 s14 hf
    refine e_aload_n dX12_stand_64 0 rfl rfl (pc2 := 65) rfl ?_
    refine e_getR (r := 145) fl_X12_141 dX12_stand_65 so_101 (rs_101_55 s14.2.2) (by decide) (pc2 := 68) rfl ?_
    refine e_iconst (x := 2) dX12_stand_68 (by decide) (pc2 := 69) rfl ?_
    refine e_iload_n dX12_stand_69 1 rfl rfl (pc2 := 70) rfl ?_
    obtain ⟨s15, es15, hf⟩ := ltb_s hf
    refine e_iast dX12_stand_70 sa_145 (inb_v (by decide)) (h2 := hp s15) (by rw [es15]; rfl) (pc2 := 71) rfl ?_
    refine e_iload_n dX12_stand_71 2 rfl rfl (pc2 := 72) rfl ?_
    cases hf
    exact e_iret rfl dX12_stand_72
abbrev DDX12_ring : Nat := 7
def f_X12_ring_l19b (v1 : Int32) (v2 : Int32) (v3 : Int32) (v4 : Int32) (k19 : Int32 → Int32 → Int32 → HS → Option (Int32 × HS)) (k74 : Int32 → HS → Option (Int32 × HS)) (s : HS) : Option (Int32 × HS) :=
  (if (s.1 103 3) < v4 then k74 v2 s else ltb (sI s 145 (1) v4) fun s6 => bnd (f_X12_runs s6) fun s8 => bnd (f_X12_behindInAll s8) fun y9 => (if 0 < y9 then ltb (v4 + 1) fun x11 => k19 v2 v3 x11 s8 else bnd (f_X12_drunkInAll s8) fun y12 => (if v3 < y12 then bnd (f_X12_drunkInAll s8) fun y14 => ltb (v4 + 1) fun x15 => k19 v4 y14 x15 s8 else ltb (v4 + 1) fun x16 => k19 v2 v3 x16 s8)))
set_option maxRecDepth 20000 in
set_option maxHeartbeats 2000000 in
theorem t_X12_ring_l19b (v1 : Int32) (v2 : Int32) (v3 : Int32) (v4 : Int32) (s : HS) {x : Int32} {t : HS} (k19 : Int32 → Int32 → Int32 → HS → Option (Int32 × HS)) (hk19 : ∀ (a2 : Int32) (a3 : Int32) (a4 : Int32) (s : HS), k19 a2 a3 a4 s = some (x, t) → Ev DDX12_ring miX12_ring NF (some (.int x)) NF (hp t) 19 NF [(0, .ref 101), (1, .int v1), (2, .int a2), (3, .int a3), (4, .int a4)] [] (hp s)) (k74 : Int32 → HS → Option (Int32 × HS)) (hk74 : ∀ (a2 : Int32) (s : HS), k74 a2 s = some (x, t) → Ev DDX12_ring miX12_ring NF (some (.int x)) NF (hp t) 74 NF [(0, .ref 101), (1, .int v1), (2, .int a2)] [] (hp s)) (hf : f_X12_ring_l19b v1 v2 v3 v4 k19 k74 s = some (x, t)) : Ev DDX12_ring miX12_ring NF (some (.int x)) NF (hp t) 19 NF [(0, .ref 101), (1, .int v1), (2, .int v2), (3, .int v3), (4, .int v4)] [] (hp s) := by
  refine e_iload dX12_ring_19 4 rfl (pc2 := 21) rfl ?_
  refine e_aload_n dX12_ring_21 0 rfl rfl (pc2 := 22) rfl ?_
  refine e_getR (r := 103) fl_X12_13 dX12_ring_22 so_101 (rs_101_10 s.2.2) (by decide) (pc2 := 25) rfl ?_
  refine e_iconst (x := 3) dX12_ring_25 (by decide) (pc2 := 26) rfl ?_
  refine e_iald dX12_ring_26 sa_103 (inb_v (by decide)) (pc2 := 27) rfl ?_
  refine e_icmp_gt (tgt := 74) dX12_ring_27 (by decide) (pc2 := 30) rfl (fun c5 => ?_) (fun c5 => ?_)
  · have hf := if_t c5 hf
    refine ev_sub [0, 1, 2] rfl ?_
    exact hk74 v2 s hf
  · have hf := if_f c5 hf
    refine e_aload_n dX12_ring_30 0 rfl rfl (pc2 := 31) rfl ?_
    refine e_getR (r := 145) fl_X12_141 dX12_ring_31 so_101 (rs_101_55 s.2.2) (by decide) (pc2 := 34) rfl ?_
    refine e_iconst (x := 1) dX12_ring_34 (by decide) (pc2 := 35) rfl ?_
    refine e_iload dX12_ring_35 4 rfl (pc2 := 37) rfl ?_
    obtain ⟨s6, es6, hf⟩ := ltb_s hf
    refine e_iast dX12_ring_37 sa_145 (inb_v (by decide)) (h2 := hp s6) (by rw [es6]; rfl) (pc2 := 38) rfl ?_
    refine e_aload_n dX12_ring_38 0 rfl rfl (pc2 := 39) rfl ?_
    obtain ⟨s8, hy7, hf⟩ := bnd_s hf
    refine e_callVn (t_X12_runs  s6 hy7) dX12_ring_39 cv_X12_528 rfl so_101 rc_11 (by decide) (by first | exact Nat.le_of_ble_eq_true rfl | simp [rva_cat, vc_i, vc_r, vc_l, vc_n]) nn0 rfl (pc2 := 42) rfl ?_
    refine e_aload_n dX12_ring_42 0 rfl rfl (pc2 := 43) rfl ?_
    obtain ⟨y9, hy9, hf⟩ := bnd_s hf
    refine e_callVs (t_X12_behindInAll  s8 hy9) dX12_ring_43 cv_X12_549 rfl so_101 rc_11 (by decide) (by first | exact Nat.le_of_ble_eq_true rfl | simp [rva_cat, vc_i, vc_r, vc_l, vc_n]) nn0 rfl (pc2 := 46) rfl ?_
    refine e_if_gt (tgt := 68) dX12_ring_46 (by decide) (pc2 := 49) rfl (fun c10 => ?_) (fun c10 => ?_)
    · have hf := if_t c10 hf
      obtain ⟨x11, ex11, hf⟩ := ltb_s hf
      refine e_iinc dX12_ring_68 4 rfl (c9 := 1) (by decide) ex11.symm (by decide) (ls' := [(0, .ref 101), (1, .int v1), (2, .int v2), (3, .int v3), (4, .int x11)]) [1, 2, 3, 4, 0] rfl (pc2 := 71) rfl ?_
      refine e_goto (tgt := 19) dX12_ring_71 (by decide) ?_
      exact hk19 v2 v3 x11 s8 hf
    · have hf := if_f c10 hf
      refine e_aload_n dX12_ring_49 0 rfl rfl (pc2 := 50) rfl ?_
      obtain ⟨y12, hy12, hf⟩ := bnd_s hf
      refine e_callVs (t_X12_drunkInAll  s8 hy12) dX12_ring_50 cv_X12_540 rfl so_101 rc_11 (by decide) (by first | exact Nat.le_of_ble_eq_true rfl | simp [rva_cat, vc_i, vc_r, vc_l, vc_n]) nn0 rfl (pc2 := 53) rfl ?_
      refine e_iload_n dX12_ring_53 3 rfl rfl (pc2 := 54) rfl ?_
      refine e_icmp_gt (tgt := 60) dX12_ring_54 (by decide) (pc2 := 57) rfl (fun c13 => ?_) (fun c13 => ?_)
      · have hf := if_t c13 hf
        refine e_aload_n dX12_ring_60 0 rfl rfl (pc2 := 61) rfl ?_
        obtain ⟨y14, hy14, hf⟩ := bnd_s hf
        refine e_callVs (t_X12_drunkInAll  s8 hy14) dX12_ring_61 cv_X12_540 rfl so_101 rc_11 (by decide) (by first | exact Nat.le_of_ble_eq_true rfl | simp [rva_cat, vc_i, vc_r, vc_l, vc_n]) nn0 rfl (pc2 := 64) rfl ?_
        refine e_istore_n dX12_ring_64 rfl (by decide) rfl (ls' := [(0, .ref 101), (1, .int v1), (3, .int y14), (4, .int v4)]) [1, 2, 0, 4] rfl (pc2 := 65) rfl ?_
        refine e_iload dX12_ring_65 3 rfl (pc2 := 67) rfl ?_
        refine e_istore_n dX12_ring_67 rfl (by decide) rfl (ls' := [(0, .ref 101), (1, .int v1), (2, .int v4), (3, .int y14), (4, .int v4)]) [1, 2, 0, 3, 4] rfl (pc2 := 68) rfl ?_
        obtain ⟨x15, ex15, hf⟩ := ltb_s hf
        refine e_iinc dX12_ring_68 4 rfl (c9 := 1) (by decide) ex15.symm (by decide) (ls' := [(0, .ref 101), (1, .int v1), (2, .int v4), (3, .int y14), (4, .int x15)]) [1, 2, 3, 4, 0] rfl (pc2 := 71) rfl ?_
        refine e_goto (tgt := 19) dX12_ring_71 (by decide) ?_
        exact hk19 v4 y14 x15 s8 hf
      · have hf := if_f c13 hf
        refine e_goto (tgt := 68) dX12_ring_57 (by decide) ?_
        obtain ⟨x16, ex16, hf⟩ := ltb_s hf
        refine e_iinc dX12_ring_68 4 rfl (c9 := 1) (by decide) ex16.symm (by decide) (ls' := [(0, .ref 101), (1, .int v1), (2, .int v2), (3, .int v3), (4, .int x16)]) [1, 2, 3, 4, 0] rfl (pc2 := 71) rfl ?_
        refine e_goto (tgt := 19) dX12_ring_71 (by decide) ?_
        exact hk19 v2 v3 x16 s8 hf
def f_X12_ring_l19 (v1 : Int32) (k74 : Int32 → HS → Option (Int32 × HS)) : Nat → Int32 → Int32 → Int32 → HS → Option (Int32 × HS)
  | 0, _, _, _, _ => none
  | n + 1, v2, v3, v4, s => f_X12_ring_l19b v1 v2 v3 v4 (f_X12_ring_l19 v1 k74 n) k74 s
set_option maxRecDepth 20000 in
set_option maxHeartbeats 2000000 in
theorem t_X12_ring_l19 (v1 : Int32) {x : Int32} {t : HS} (k74 : Int32 → HS → Option (Int32 × HS)) (hk74 : ∀ (a2 : Int32) (s : HS), k74 a2 s = some (x, t) → Ev DDX12_ring miX12_ring NF (some (.int x)) NF (hp t) 74 NF [(0, .ref 101), (1, .int v1), (2, .int a2)] [] (hp s)) : ∀ (n : Nat) (v2 : Int32) (v3 : Int32) (v4 : Int32) (s : HS), f_X12_ring_l19 v1 k74 n v2 v3 v4 s = some (x, t) → Ev DDX12_ring miX12_ring NF (some (.int x)) NF (hp t) 19 NF [(0, .ref 101), (1, .int v1), (2, .int v2), (3, .int v3), (4, .int v4)] [] (hp s) := by
  intro n
  induction n with
  | zero =>
    intro v2 v3 v4 s hf
    have hf : none = some (x, t) := hf
    cases hf
  | succ n ih =>
    intro v2 v3 v4 s hf
    exact t_X12_ring_l19b v1 v2 v3 v4  s _ ih _ hk74 hf
def f_X12_ring  (s : HS) : Option (Int32 × HS) :=
  ltb (sI s 101 0 0) fun s1 => ltb (s1.1 145 1) fun x3 => f_X12_ring_l19 x3 (fun v17 s18 => ltb (sI s18 145 (1) x3) fun s19 => some (v17, s19)) FU (-1) (-1) 1 s1
set_option maxRecDepth 20000 in
set_option maxHeartbeats 2000000 in
theorem t_X12_ring  (s : HS) {x : Int32} {t : HS} (hf : f_X12_ring  s = some (x, t)) : Mt DDX12_ring miX12_ring [.ref 101] NF (hp s) (some (.int x)) NF (hp t) := by
  refine Mt.of (by decide +kernel) (Nat.le_refl _) (Nat.le_of_ble_eq_true rfl) ?_
  show Ev DDX12_ring miX12_ring NF (some (.int x)) NF (hp t) 0 NF [(0, .ref 101)] [] (hp s)
  unfold f_X12_ring at hf
  refine e_aload_n dX12_ring_0 0 rfl rfl (pc2 := 1) rfl ?_
  refine e_iconst (x := 0) dX12_ring_1 (by decide) (pc2 := 2) rfl ?_
  obtain ⟨s1, es1, hf⟩ := ltb_s hf
  refine e_putI fl_X12_194 dX12_ring_2 so_101 fn_11_0 (h2 := hp s1) (by rw [es1]; rfl) (pc2 := 5) rfl ?_
  refine e_aload_n dX12_ring_5 0 rfl rfl (pc2 := 6) rfl ?_
  refine e_getR (r := 145) fl_X12_141 dX12_ring_6 so_101 (rs_101_55 s1.2.2) (by decide) (pc2 := 9) rfl ?_
  refine e_iconst (x := 1) dX12_ring_9 (by decide) (pc2 := 10) rfl ?_
  refine e_iald dX12_ring_10 sa_145 (inb_v (by decide)) (pc2 := 11) rfl ?_
  obtain ⟨x3, ex3, hf⟩ := ltb_s hf
  refine e_istore_n dX12_ring_11 rfl (by decide) ex3.symm (ls' := [(0, .ref 101), (1, .int x3)]) [1, 0] rfl (pc2 := 12) rfl ?_
  refine e_iconst (x := (-1)) dX12_ring_12 (by decide) (pc2 := 13) rfl ?_
  refine e_istore_n dX12_ring_13 rfl (by decide) rfl (ls' := [(0, .ref 101), (1, .int x3), (2, .int (-1))]) [1, 2, 0] rfl (pc2 := 14) rfl ?_
  refine e_iconst (x := (-1)) dX12_ring_14 (by decide) (pc2 := 15) rfl ?_
  refine e_istore_n dX12_ring_15 rfl (by decide) rfl (ls' := [(0, .ref 101), (1, .int x3), (2, .int (-1)), (3, .int (-1))]) [1, 2, 3, 0] rfl (pc2 := 16) rfl ?_
  refine e_iconst (x := 1) dX12_ring_16 (by decide) (pc2 := 17) rfl ?_
  refine e_istore dX12_ring_17 (by decide) rfl (ls' := [(0, .ref 101), (1, .int x3), (2, .int (-1)), (3, .int (-1)), (4, .int 1)]) [1, 2, 3, 4, 0] rfl (pc2 := 19) rfl ?_
  refine t_X12_ring_l19 x3 _ ?_ FU (-1) (-1) 1 s1 hf
  · intro v17 s18 hf
    refine e_aload_n dX12_ring_74 0 rfl rfl (pc2 := 75) rfl ?_
    refine e_getR (r := 145) fl_X12_141 dX12_ring_75 so_101 (rs_101_55 s18.2.2) (by decide) (pc2 := 78) rfl ?_
    refine e_iconst (x := 1) dX12_ring_78 (by decide) (pc2 := 79) rfl ?_
    refine e_iload_n dX12_ring_79 1 rfl rfl (pc2 := 80) rfl ?_
    obtain ⟨s19, es19, hf⟩ := ltb_s hf
    refine e_iast dX12_ring_80 sa_145 (inb_v (by decide)) (h2 := hp s19) (by rw [es19]; rfl) (pc2 := 81) rfl ?_
    refine e_iload_n dX12_ring_81 2 rfl rfl (pc2 := 82) rfl ?_
    cases hf
    exact e_iret rfl dX12_ring_82
abbrev DDX12_halves : Nat := 1
def f_X12_halves_l16b (v1 : Int32) (v2 : Int32) (v3 : Int32) (k16 : Int32 → Int32 → Option Int32) (k71 : Int32 → Option Int32) (s : HS) : Option Int32 :=
  (if (s.1 103 1) ≤ v3 then k71 v1 else gd (inb v2 6) ((if (((s.1 153 v2.toNatClampNeg) >>> (v3 &&& 31)) &&& (1 : Int32)) = 1 then gd (inb v3 10) ((if (s.1 108 v3.toNatClampNeg) = 2 then ltb (v1 + 0) fun x11 => ltb (v3 + 1) fun x12 => k16 x11 x12 else gd (inb v3 10) (ltb (v1 + ((s.1 110 v3.toNatClampNeg) / 2)) fun x14 => ltb (v3 + 1) fun x15 => k16 x14 x15))) else ltb (v1 + 0) fun x7 => ltb (v3 + 1) fun x8 => k16 x7 x8)))
set_option maxRecDepth 20000 in
set_option maxHeartbeats 2000000 in
theorem t_X12_halves_l16b (v1 : Int32) (v2 : Int32) (v3 : Int32) (s : HS) {x : Int32} (k16 : Int32 → Int32 → Option Int32) (hk16 : ∀ (a1 : Int32) (a3 : Int32), k16 a1 a3 = some x → Ev DDX12_halves miX12_halves NF (some (.int x)) NF (hp s) 16 NF [(0, .ref 101), (1, .int a1), (2, .int v2), (3, .int a3)] [] (hp s)) (k71 : Int32 → Option Int32) (hk71 : ∀ (a1 : Int32), k71 a1 = some x → Ev DDX12_halves miX12_halves NF (some (.int x)) NF (hp s) 71 NF [(0, .ref 101), (1, .int a1), (2, .int v2)] [] (hp s)) (hf : f_X12_halves_l16b v1 v2 v3 k16 k71 s = some x) : Ev DDX12_halves miX12_halves NF (some (.int x)) NF (hp s) 16 NF [(0, .ref 101), (1, .int v1), (2, .int v2), (3, .int v3)] [] (hp s) := by
  refine e_iload_n dX12_halves_16 3 rfl rfl (pc2 := 17) rfl ?_
  refine e_aload_n dX12_halves_17 0 rfl rfl (pc2 := 18) rfl ?_
  refine e_getR (r := 103) fl_X12_13 dX12_halves_18 so_101 (rs_101_10 s.2.2) (by decide) (pc2 := 21) rfl ?_
  refine e_iconst (x := 1) dX12_halves_21 (by decide) (pc2 := 22) rfl ?_
  refine e_iald dX12_halves_22 sa_103 (inb_v (by decide)) (pc2 := 23) rfl ?_
  refine e_icmp_ge (tgt := 71) dX12_halves_23 (by decide) (pc2 := 26) rfl (fun c4 => ?_) (fun c4 => ?_)
  · have hf := if_t c4 hf
    refine ev_sub [0, 1, 2] rfl ?_
    exact hk71 v1 hf
  · have hf := if_f c4 hf
    refine e_iload_n dX12_halves_26 1 rfl rfl (pc2 := 27) rfl ?_
    refine e_aload_n dX12_halves_27 0 rfl rfl (pc2 := 28) rfl ?_
    refine e_getR (r := 153) fl_X12_172 dX12_halves_28 so_101 (rs_101_70 s.2.2) (by decide) (pc2 := 31) rfl ?_
    refine e_iload_n dX12_halves_31 2 rfl rfl (pc2 := 32) rfl ?_
    obtain ⟨g5, hf⟩ := gd_some hf
    refine e_iald dX12_halves_32 sa_153 (inb_v g5) (pc2 := 33) rfl ?_
    refine e_iload_n dX12_halves_33 3 rfl rfl (pc2 := 34) rfl ?_
    refine e_ishr dX12_halves_34 (pc2 := 35) rfl ?_
    refine e_iconst (x := 1) dX12_halves_35 (by decide) (pc2 := 36) rfl ?_
    refine e_iand dX12_halves_36 (pc2 := 37) rfl ?_
    refine e_iconst (x := 1) dX12_halves_37 (by decide) (pc2 := 38) rfl ?_
    refine e_icmp_ne (tgt := 62) dX12_halves_38 (by decide) (pc2 := 41) rfl (fun c6 => ?_) (fun c6 => ?_)
    · have hf := if_f c6 hf
      refine e_iconst (x := 0) dX12_halves_62 (by decide) (pc2 := 63) rfl ?_
      refine e_iadd dX12_halves_63 (pc2 := 64) rfl ?_
      obtain ⟨x7, ex7, hf⟩ := ltb_s hf
      refine e_istore_n dX12_halves_64 rfl (by decide) ex7.symm (ls' := [(0, .ref 101), (1, .int x7), (2, .int v2), (3, .int v3)]) [1, 0, 2, 3] rfl (pc2 := 65) rfl ?_
      obtain ⟨x8, ex8, hf⟩ := ltb_s hf
      refine e_iinc dX12_halves_65 3 rfl (c9 := 1) (by decide) ex8.symm (by decide) (ls' := [(0, .ref 101), (1, .int x7), (2, .int v2), (3, .int x8)]) [1, 2, 3, 0] rfl (pc2 := 68) rfl ?_
      refine e_goto (tgt := 16) dX12_halves_68 (by decide) ?_
      exact hk16 x7 x8 hf
    · have hf := if_t c6 hf
      refine e_aload_n dX12_halves_41 0 rfl rfl (pc2 := 42) rfl ?_
      refine e_getR (r := 108) fl_X12_29 dX12_halves_42 so_101 (rs_101_15 s.2.2) (by decide) (pc2 := 45) rfl ?_
      refine e_iload_n dX12_halves_45 3 rfl rfl (pc2 := 46) rfl ?_
      obtain ⟨g9, hf⟩ := gd_some hf
      refine e_iald dX12_halves_46 sa_108 (inb_v g9) (pc2 := 47) rfl ?_
      refine e_iconst (x := 2) dX12_halves_47 (by decide) (pc2 := 48) rfl ?_
      refine e_icmp_eq (tgt := 62) dX12_halves_48 (by decide) (pc2 := 51) rfl (fun c10 => ?_) (fun c10 => ?_)
      · have hf := if_t c10 hf
        refine e_iconst (x := 0) dX12_halves_62 (by decide) (pc2 := 63) rfl ?_
        refine e_iadd dX12_halves_63 (pc2 := 64) rfl ?_
        obtain ⟨x11, ex11, hf⟩ := ltb_s hf
        refine e_istore_n dX12_halves_64 rfl (by decide) ex11.symm (ls' := [(0, .ref 101), (1, .int x11), (2, .int v2), (3, .int v3)]) [1, 0, 2, 3] rfl (pc2 := 65) rfl ?_
        obtain ⟨x12, ex12, hf⟩ := ltb_s hf
        refine e_iinc dX12_halves_65 3 rfl (c9 := 1) (by decide) ex12.symm (by decide) (ls' := [(0, .ref 101), (1, .int x11), (2, .int v2), (3, .int x12)]) [1, 2, 3, 0] rfl (pc2 := 68) rfl ?_
        refine e_goto (tgt := 16) dX12_halves_68 (by decide) ?_
        exact hk16 x11 x12 hf
      · have hf := if_f c10 hf
        refine e_aload_n dX12_halves_51 0 rfl rfl (pc2 := 52) rfl ?_
        refine e_getR (r := 110) fl_X12_35 dX12_halves_52 so_101 (rs_101_17 s.2.2) (by decide) (pc2 := 55) rfl ?_
        refine e_iload_n dX12_halves_55 3 rfl rfl (pc2 := 56) rfl ?_
        obtain ⟨g13, hf⟩ := gd_some hf
        refine e_iald dX12_halves_56 sa_110 (inb_v g13) (pc2 := 57) rfl ?_
        refine e_iconst (x := 2) dX12_halves_57 (by decide) (pc2 := 58) rfl ?_
        refine e_idiv dX12_halves_58 (by decide) (pc2 := 59) rfl ?_
        refine e_goto (tgt := 63) dX12_halves_59 (by decide) ?_
        refine e_iadd dX12_halves_63 (pc2 := 64) rfl ?_
        obtain ⟨x14, ex14, hf⟩ := ltb_s hf
        refine e_istore_n dX12_halves_64 rfl (by decide) ex14.symm (ls' := [(0, .ref 101), (1, .int x14), (2, .int v2), (3, .int v3)]) [1, 0, 2, 3] rfl (pc2 := 65) rfl ?_
        obtain ⟨x15, ex15, hf⟩ := ltb_s hf
        refine e_iinc dX12_halves_65 3 rfl (c9 := 1) (by decide) ex15.symm (by decide) (ls' := [(0, .ref 101), (1, .int x14), (2, .int v2), (3, .int x15)]) [1, 2, 3, 0] rfl (pc2 := 68) rfl ?_
        refine e_goto (tgt := 16) dX12_halves_68 (by decide) ?_
        exact hk16 x14 x15 hf
def f_X12_halves_l16 (v2 : Int32) (k71 : Int32 → Option Int32) (s : HS) : Nat → Int32 → Int32 → Option Int32
  | 0, _, _ => none
  | n + 1, v1, v3 => f_X12_halves_l16b v1 v2 v3 (f_X12_halves_l16 v2 k71 s n) k71 s
set_option maxRecDepth 20000 in
set_option maxHeartbeats 2000000 in
theorem t_X12_halves_l16 (v2 : Int32) (s : HS) {x : Int32} (k71 : Int32 → Option Int32) (hk71 : ∀ (a1 : Int32), k71 a1 = some x → Ev DDX12_halves miX12_halves NF (some (.int x)) NF (hp s) 71 NF [(0, .ref 101), (1, .int a1), (2, .int v2)] [] (hp s)) : ∀ (n : Nat) (v1 : Int32) (v3 : Int32), f_X12_halves_l16 v2 k71 s n v1 v3 = some x → Ev DDX12_halves miX12_halves NF (some (.int x)) NF (hp s) 16 NF [(0, .ref 101), (1, .int v1), (2, .int v2), (3, .int v3)] [] (hp s) := by
  intro n
  induction n with
  | zero =>
    intro v1 v3 hf
    have hf : none = some x := hf
    cases hf
  | succ n ih =>
    intro v1 v3 hf
    exact t_X12_halves_l16b v1 v2 v3  s _ ih _ hk71 hf
def f_X12_halves_l4b (v1 : Int32) (v2 : Int32) (k4 : Int32 → Int32 → Option Int32) (s : HS) : Option Int32 :=
  (if (s.1 103 2) ≤ v2 then some v1 else f_X12_halves_l16 v2 (fun v16 => ltb (v2 + 1) fun x17 => k4 v16 x17) s FU v1 0)
set_option maxRecDepth 20000 in
set_option maxHeartbeats 2000000 in
theorem t_X12_halves_l4b (v1 : Int32) (v2 : Int32) (s : HS) {x : Int32} (k4 : Int32 → Int32 → Option Int32) (hk4 : ∀ (a1 : Int32) (a2 : Int32), k4 a1 a2 = some x → Ev DDX12_halves miX12_halves NF (some (.int x)) NF (hp s) 4 NF [(0, .ref 101), (1, .int a1), (2, .int a2)] [] (hp s)) (hf : f_X12_halves_l4b v1 v2 k4 s = some x) : Ev DDX12_halves miX12_halves NF (some (.int x)) NF (hp s) 4 NF [(0, .ref 101), (1, .int v1), (2, .int v2)] [] (hp s) := by
  refine e_iload_n dX12_halves_4 2 rfl rfl (pc2 := 5) rfl ?_
  refine e_aload_n dX12_halves_5 0 rfl rfl (pc2 := 6) rfl ?_
  refine e_getR (r := 103) fl_X12_13 dX12_halves_6 so_101 (rs_101_10 s.2.2) (by decide) (pc2 := 9) rfl ?_
  refine e_iconst (x := 2) dX12_halves_9 (by decide) (pc2 := 10) rfl ?_
  refine e_iald dX12_halves_10 sa_103 (inb_v (by decide)) (pc2 := 11) rfl ?_
  refine e_icmp_ge (tgt := 77) dX12_halves_11 (by decide) (pc2 := 14) rfl (fun c2 => ?_) (fun c2 => ?_)
  · have hf := if_t c2 hf
    refine e_iload_n dX12_halves_77 1 rfl rfl (pc2 := 78) rfl ?_
    cases hf
    exact e_iret rfl dX12_halves_78
  · have hf := if_f c2 hf
    refine e_iconst (x := 0) dX12_halves_14 (by decide) (pc2 := 15) rfl ?_
    refine e_istore_n dX12_halves_15 rfl (by decide) rfl (ls' := [(0, .ref 101), (1, .int v1), (2, .int v2), (3, .int 0)]) [1, 2, 3, 0] rfl (pc2 := 16) rfl ?_
    refine t_X12_halves_l16 v2 s _ ?_ FU v1 0 hf
    · intro v16 hf
      obtain ⟨x17, ex17, hf⟩ := ltb_s hf
      refine e_iinc dX12_halves_71 2 rfl (c9 := 1) (by decide) ex17.symm (by decide) (ls' := [(0, .ref 101), (1, .int v16), (2, .int x17)]) [1, 2, 0] rfl (pc2 := 74) rfl ?_
      refine e_goto (tgt := 4) dX12_halves_74 (by decide) ?_
      exact hk4 v16 x17 hf
def f_X12_halves_l4  (s : HS) : Nat → Int32 → Int32 → Option Int32
  | 0, _, _ => none
  | n + 1, v1, v2 => f_X12_halves_l4b v1 v2 (f_X12_halves_l4 s n)  s
set_option maxRecDepth 20000 in
set_option maxHeartbeats 2000000 in
theorem t_X12_halves_l4  (s : HS) {x : Int32}  : ∀ (n : Nat) (v1 : Int32) (v2 : Int32), f_X12_halves_l4 s n v1 v2 = some x → Ev DDX12_halves miX12_halves NF (some (.int x)) NF (hp s) 4 NF [(0, .ref 101), (1, .int v1), (2, .int v2)] [] (hp s) := by
  intro n
  induction n with
  | zero =>
    intro v1 v2 hf
    have hf : none = some x := hf
    cases hf
  | succ n ih =>
    intro v1 v2 hf
    exact t_X12_halves_l4b v1 v2  s _ ih  hf
def f_X12_halves  (s : HS) : Option Int32 :=
  f_X12_halves_l4 s FU 0 0
set_option maxRecDepth 20000 in
set_option maxHeartbeats 2000000 in
theorem t_X12_halves  (s : HS) {x : Int32} (hf : f_X12_halves  s = some x) : Mt DDX12_halves miX12_halves [.ref 101] NF (hp s) (some (.int x)) NF (hp s) := by
  refine Mt.of (by decide +kernel) (Nat.le_refl _) (Nat.le_of_ble_eq_true rfl) ?_
  show Ev DDX12_halves miX12_halves NF (some (.int x)) NF (hp s) 0 NF [(0, .ref 101)] [] (hp s)
  unfold f_X12_halves at hf
  refine e_iconst (x := 0) dX12_halves_0 (by decide) (pc2 := 1) rfl ?_
  refine e_istore_n dX12_halves_1 rfl (by decide) rfl (ls' := [(0, .ref 101), (1, .int 0)]) [1, 0] rfl (pc2 := 2) rfl ?_
  refine e_iconst (x := 0) dX12_halves_2 (by decide) (pc2 := 3) rfl ?_
  refine e_istore_n dX12_halves_3 rfl (by decide) rfl (ls' := [(0, .ref 101), (1, .int 0), (2, .int 0)]) [1, 2, 0] rfl (pc2 := 4) rfl ?_
  refine t_X12_halves_l4 s FU 0 0 hf
abbrev DDX12_best : Nat := 7
def f_X12_best_j84 (v1 : Int32) (v2 : Int32) (v3 : Int32) (v4 : Int32) (v5 : Int32) (v6 : Int32) (w0 : Int32) (k43 : Int32 → Int32 → Int32 → HS → Option (Int32 × HS)) (s : HS) : Option (Int32 × HS) :=
  (if v5 < w0 then ltb (v6 + 1) fun x15 => k43 v6 w0 x15 s else ltb (v6 + 1) fun x16 => k43 v4 v5 x16 s)
set_option maxRecDepth 20000 in
set_option maxHeartbeats 2000000 in
theorem t_X12_best_j84 (v1 : Int32) (v2 : Int32) (v3 : Int32) (v4 : Int32) (v5 : Int32) (v6 : Int32) (w0 : Int32) (s : HS) {x : Int32} {t : HS} (k43 : Int32 → Int32 → Int32 → HS → Option (Int32 × HS)) (hk43 : ∀ (a4 : Int32) (a5 : Int32) (a6 : Int32) (s : HS), k43 a4 a5 a6 s = some (x, t) → Ev DDX12_best miX12_best NF (some (.int x)) NF (hp t) 43 NF [(0, .ref 101), (1, .int v1), (2, .int v2), (3, .int v3), (4, .int a4), (5, .int a5), (6, .int a6)] [] (hp s)) (hf : f_X12_best_j84 v1 v2 v3 v4 v5 v6 w0 k43 s = some (x, t)) : Ev DDX12_best miX12_best NF (some (.int x)) NF (hp t) 84 NF [(0, .ref 101), (1, .int v1), (2, .int v2), (3, .int v3), (4, .int v4), (5, .int v5), (6, .int v6)] [.int w0] (hp s) := by
  refine e_istore dX12_best_84 (by decide) rfl (ls' := [(0, .ref 101), (1, .int v1), (2, .int v2), (3, .int v3), (4, .int v4), (5, .int v5), (6, .int v6), (7, .int w0)]) [1, 2, 3, 4, 5, 6, 7, 0] rfl (pc2 := 86) rfl ?_
  refine e_iload dX12_best_86 7 rfl (pc2 := 88) rfl ?_
  refine e_iload dX12_best_88 5 rfl (pc2 := 90) rfl ?_
  refine e_icmp_gt (tgt := 96) dX12_best_90 (by decide) (pc2 := 93) rfl (fun c14 => ?_) (fun c14 => ?_)
  · have hf := if_t c14 hf
    refine e_iload dX12_best_96 7 rfl (pc2 := 98) rfl ?_
    refine e_istore dX12_best_98 (by decide) rfl (ls' := [(0, .ref 101), (1, .int v1), (2, .int v2), (3, .int v3), (5, .int w0), (6, .int v6)]) [1, 2, 3, 4, 0, 6] rfl (pc2 := 100) rfl ?_
    refine e_iload dX12_best_100 5 rfl (pc2 := 102) rfl ?_
    refine e_istore dX12_best_102 (by decide) rfl (ls' := [(0, .ref 101), (1, .int v1), (2, .int v2), (3, .int v3), (4, .int v6), (5, .int w0), (6, .int v6)]) [1, 2, 3, 4, 0, 5, 6] rfl (pc2 := 104) rfl ?_
    obtain ⟨x15, ex15, hf⟩ := ltb_s hf
    refine e_iinc dX12_best_104 6 rfl (c9 := 1) (by decide) ex15.symm (by decide) (ls' := [(0, .ref 101), (1, .int v1), (2, .int v2), (3, .int v3), (4, .int v6), (5, .int w0), (6, .int x15)]) [1, 2, 3, 4, 5, 6, 0] rfl (pc2 := 107) rfl ?_
    refine e_goto (tgt := 43) dX12_best_107 (by decide) ?_
    exact hk43 v6 w0 x15 s hf
  · have hf := if_f c14 hf
    refine e_goto (tgt := 104) dX12_best_93 (by decide) ?_
    obtain ⟨x16, ex16, hf⟩ := ltb_s hf
    refine e_iinc dX12_best_104 6 rfl (c9 := 1) (by decide) ex16.symm (by decide) (ls' := [(0, .ref 101), (1, .int v1), (2, .int v2), (3, .int v3), (4, .int v4), (5, .int v5), (6, .int x16)]) [1, 2, 3, 4, 5, 6, 0] rfl (pc2 := 107) rfl ?_
    refine e_goto (tgt := 43) dX12_best_107 (by decide) ?_
    exact hk43 v4 v5 x16 s hf
def f_X12_best_l43b (v1 : Int32) (v2 : Int32) (v3 : Int32) (v4 : Int32) (v5 : Int32) (v6 : Int32) (k43 : Int32 → Int32 → Int32 → HS → Option (Int32 × HS)) (k110 : Int32 → HS → Option (Int32 × HS)) (s : HS) : Option (Int32 × HS) :=
  (if 100 ≤ v6 then k110 v4 s else gd (inb (4 + v1) 9) (ltb (sI s 145 ((4 + v1).toNatClampNeg) v6) fun s8 => bnd (f_X12_runs s8) fun s11 => (if v2 = 0 then bnd (f_X12_drunkInAll s11) fun y13 => f_X12_best_j84 v1 v2 v3 v4 v5 v6 y13 k43 s11 else bnd (f_X12_pence s11) fun y17 => bnd (f_X12_halves s11) fun y18 => f_X12_best_j84 v1 v2 v3 v4 v5 v6 (y17 + y18) k43 s11)))
set_option maxRecDepth 20000 in
set_option maxHeartbeats 2000000 in
theorem t_X12_best_l43b (v1 : Int32) (v2 : Int32) (v3 : Int32) (v4 : Int32) (v5 : Int32) (v6 : Int32) (s : HS) {x : Int32} {t : HS} (k43 : Int32 → Int32 → Int32 → HS → Option (Int32 × HS)) (hk43 : ∀ (a4 : Int32) (a5 : Int32) (a6 : Int32) (s : HS), k43 a4 a5 a6 s = some (x, t) → Ev DDX12_best miX12_best NF (some (.int x)) NF (hp t) 43 NF [(0, .ref 101), (1, .int v1), (2, .int v2), (3, .int v3), (4, .int a4), (5, .int a5), (6, .int a6)] [] (hp s)) (k110 : Int32 → HS → Option (Int32 × HS)) (hk110 : ∀ (a4 : Int32) (s : HS), k110 a4 s = some (x, t) → Ev DDX12_best miX12_best NF (some (.int x)) NF (hp t) 110 NF [(0, .ref 101), (1, .int v1), (3, .int v3), (4, .int a4)] [] (hp s)) (hf : f_X12_best_l43b v1 v2 v3 v4 v5 v6 k43 k110 s = some (x, t)) : Ev DDX12_best miX12_best NF (some (.int x)) NF (hp t) 43 NF [(0, .ref 101), (1, .int v1), (2, .int v2), (3, .int v3), (4, .int v4), (5, .int v5), (6, .int v6)] [] (hp s) := by
  refine e_iload dX12_best_43 6 rfl (pc2 := 45) rfl ?_
  refine e_bipush (x := 100) dX12_best_45 (by decide) (pc2 := 47) rfl ?_
  refine e_icmp_ge (tgt := 110) dX12_best_47 (by decide) (pc2 := 50) rfl (fun c7 => ?_) (fun c7 => ?_)
  · have hf := if_t c7 hf
    refine ev_sub [0, 1, 3, 4] rfl ?_
    exact hk110 v4 s hf
  · have hf := if_f c7 hf
    refine e_aload_n dX12_best_50 0 rfl rfl (pc2 := 51) rfl ?_
    refine e_getR (r := 145) fl_X12_141 dX12_best_51 so_101 (rs_101_55 s.2.2) (by decide) (pc2 := 54) rfl ?_
    refine e_iconst (x := 4) dX12_best_54 (by decide) (pc2 := 55) rfl ?_
    refine e_iload_n dX12_best_55 1 rfl rfl (pc2 := 56) rfl ?_
    refine e_iadd dX12_best_56 (pc2 := 57) rfl ?_
    refine e_iload dX12_best_57 6 rfl (pc2 := 59) rfl ?_
    obtain ⟨g9, hf⟩ := gd_some hf
    obtain ⟨s8, es8, hf⟩ := ltb_s hf
    refine e_iast dX12_best_59 sa_145 (inb_v g9) (h2 := hp s8) (by rw [es8]; rfl) (pc2 := 60) rfl ?_
    refine e_aload_n dX12_best_60 0 rfl rfl (pc2 := 61) rfl ?_
    obtain ⟨s11, hy10, hf⟩ := bnd_s hf
    refine e_callVn (t_X12_runs  s8 hy10) dX12_best_61 cv_X12_528 rfl so_101 rc_11 (by decide) (by first | exact Nat.le_of_ble_eq_true rfl | simp [rva_cat, vc_i, vc_r, vc_l, vc_n]) nn0 rfl (pc2 := 64) rfl ?_
    refine e_iload_n dX12_best_64 2 rfl rfl (pc2 := 65) rfl ?_
    refine e_if_eq (tgt := 80) dX12_best_65 (by decide) (pc2 := 68) rfl (fun c12 => ?_) (fun c12 => ?_)
    · have hf := if_t c12 hf
      refine e_aload_n dX12_best_80 0 rfl rfl (pc2 := 81) rfl ?_
      obtain ⟨y13, hy13, hf⟩ := bnd_s hf
      refine e_callVs (t_X12_drunkInAll  s11 hy13) dX12_best_81 cv_X12_540 rfl so_101 rc_11 (by decide) (by first | exact Nat.le_of_ble_eq_true rfl | simp [rva_cat, vc_i, vc_r, vc_l, vc_n]) nn0 rfl (pc2 := 84) rfl ?_
      exact t_X12_best_j84 v1 v2 v3 v4 v5 v6 y13 s11 _ hk43 hf
    · have hf := if_f c12 hf
      refine e_aload_n dX12_best_68 0 rfl rfl (pc2 := 69) rfl ?_
      obtain ⟨y17, hy17, hf⟩ := bnd_s hf
      refine e_callVs (t_X12_pence  s11 hy17) dX12_best_69 cv_X12_534 rfl so_101 rc_11 (by decide) (by first | exact Nat.le_of_ble_eq_true rfl | simp [rva_cat, vc_i, vc_r, vc_l, vc_n]) nn0 rfl (pc2 := 72) rfl ?_
      refine e_aload_n dX12_best_72 0 rfl rfl (pc2 := 73) rfl ?_
      obtain ⟨y18, hy18, hf⟩ := bnd_s hf
      refine e_callVs (t_X12_halves  s11 hy18) dX12_best_73 cv_X12_566 rfl so_101 rc_11 (by decide) (by first | exact Nat.le_of_ble_eq_true rfl | simp [rva_cat, vc_i, vc_r, vc_l, vc_n]) nn0 rfl (pc2 := 76) rfl ?_
      refine e_iadd dX12_best_76 (pc2 := 77) rfl ?_
      refine e_goto (tgt := 84) dX12_best_77 (by decide) ?_
      exact t_X12_best_j84 v1 v2 v3 v4 v5 v6 (y17 + y18) s11 _ hk43 hf
def f_X12_best_l43 (v1 : Int32) (v2 : Int32) (v3 : Int32) (k110 : Int32 → HS → Option (Int32 × HS)) : Nat → Int32 → Int32 → Int32 → HS → Option (Int32 × HS)
  | 0, _, _, _, _ => none
  | n + 1, v4, v5, v6, s => f_X12_best_l43b v1 v2 v3 v4 v5 v6 (f_X12_best_l43 v1 v2 v3 k110 n) k110 s
set_option maxRecDepth 20000 in
set_option maxHeartbeats 2000000 in
theorem t_X12_best_l43 (v1 : Int32) (v2 : Int32) (v3 : Int32) {x : Int32} {t : HS} (k110 : Int32 → HS → Option (Int32 × HS)) (hk110 : ∀ (a4 : Int32) (s : HS), k110 a4 s = some (x, t) → Ev DDX12_best miX12_best NF (some (.int x)) NF (hp t) 110 NF [(0, .ref 101), (1, .int v1), (3, .int v3), (4, .int a4)] [] (hp s)) : ∀ (n : Nat) (v4 : Int32) (v5 : Int32) (v6 : Int32) (s : HS), f_X12_best_l43 v1 v2 v3 k110 n v4 v5 v6 s = some (x, t) → Ev DDX12_best miX12_best NF (some (.int x)) NF (hp t) 43 NF [(0, .ref 101), (1, .int v1), (2, .int v2), (3, .int v3), (4, .int v4), (5, .int v5), (6, .int v6)] [] (hp s) := by
  intro n
  induction n with
  | zero =>
    intro v4 v5 v6 s hf
    have hf : none = some (x, t) := hf
    cases hf
  | succ n ih =>
    intro v4 v5 v6 s hf
    exact t_X12_best_l43b v1 v2 v3 v4 v5 v6  s _ ih _ hk110 hf
def f_X12_best (v1 : Int32) (v2 : Int32) (s : HS) : Option (Int32 × HS) :=
  ltb (sI s 101 0 0) fun s1 => (if (f_X12_isThing v1 s1) = 0 then some ((-1), s1) else gd (inb v1 10) ((if (s1.1 108 v1.toNatClampNeg) = 2 then some ((-1), s1) else gd (inb (4 + v1) 9) (ltb (s1.1 145 (4 + v1).toNatClampNeg) fun x6 => f_X12_best_l43 v1 v2 x6 (fun v19 s20 => gd (inb (4 + v1) 9) (ltb (sI s20 145 ((4 + v1).toNatClampNeg) x6) fun s21 => some (v19, s21))) FU 0 (-1) 0 s1))))
set_option maxRecDepth 20000 in
set_option maxHeartbeats 2000000 in
theorem t_X12_best (v1 : Int32) (v2 : Int32) (s : HS) {x : Int32} {t : HS} (hf : f_X12_best  v1 v2 s = some (x, t)) : Mt DDX12_best miX12_best [.ref 101, .int v1, .int v2] NF (hp s) (some (.int x)) NF (hp t) := by
  refine Mt.of (by decide +kernel) (Nat.le_refl _) (Nat.le_of_ble_eq_true rfl) ?_
  show Ev DDX12_best miX12_best NF (some (.int x)) NF (hp t) 0 NF [(0, .ref 101), (1, .int v1), (2, .int v2)] [] (hp s)
  unfold f_X12_best at hf
  refine e_aload_n dX12_best_0 0 rfl rfl (pc2 := 1) rfl ?_
  refine e_iconst (x := 0) dX12_best_1 (by decide) (pc2 := 2) rfl ?_
  obtain ⟨s1, es1, hf⟩ := ltb_s hf
  refine e_putI fl_X12_194 dX12_best_2 so_101 fn_11_0 (h2 := hp s1) (by rw [es1]; rfl) (pc2 := 5) rfl ?_
  refine e_aload_n dX12_best_5 0 rfl rfl (pc2 := 6) rfl ?_
  refine e_iload_n dX12_best_6 1 rfl rfl (pc2 := 7) rfl ?_
  refine e_callVs (t_X12_isThing v1 s1 rfl) dX12_best_7 cv_X12_507 rfl so_101 rc_11 (by decide) (by first | exact Nat.le_of_ble_eq_true rfl | simp [rva_cat, vc_i, vc_r, vc_l, vc_n]) nn0 rfl (pc2 := 10) rfl ?_
  refine e_if_eq (tgt := 23) dX12_best_10 (by decide) (pc2 := 13) rfl (fun c2 => ?_) (fun c2 => ?_)
  · have hf := if_t c2 hf
    refine e_iconst (x := (-1)) dX12_best_23 (by decide) (pc2 := 24) rfl ?_
    cases hf
    exact e_iret rfl dX12_best_24
  · have hf := if_f c2 hf
    refine e_aload_n dX12_best_13 0 rfl rfl (pc2 := 14) rfl ?_
    refine e_getR (r := 108) fl_X12_29 dX12_best_14 so_101 (rs_101_15 s1.2.2) (by decide) (pc2 := 17) rfl ?_
    refine e_iload_n dX12_best_17 1 rfl rfl (pc2 := 18) rfl ?_
    obtain ⟨g3, hf⟩ := gd_some hf
    refine e_iald dX12_best_18 sa_108 (inb_v g3) (pc2 := 19) rfl ?_
    refine e_iconst (x := 2) dX12_best_19 (by decide) (pc2 := 20) rfl ?_
    refine e_icmp_ne (tgt := 25) dX12_best_20 (by decide) (pc2 := 23) rfl (fun c4 => ?_) (fun c4 => ?_)
    · have hf := if_f c4 hf
      refine e_aload_n dX12_best_25 0 rfl rfl (pc2 := 26) rfl ?_
      refine e_getR (r := 145) fl_X12_141 dX12_best_26 so_101 (rs_101_55 s1.2.2) (by decide) (pc2 := 29) rfl ?_
      refine e_iconst (x := 4) dX12_best_29 (by decide) (pc2 := 30) rfl ?_
      refine e_iload_n dX12_best_30 1 rfl rfl (pc2 := 31) rfl ?_
      refine e_iadd dX12_best_31 (pc2 := 32) rfl ?_
      obtain ⟨g5, hf⟩ := gd_some hf
      refine e_iald dX12_best_32 sa_145 (inb_v g5) (pc2 := 33) rfl ?_
      obtain ⟨x6, ex6, hf⟩ := ltb_s hf
      refine e_istore_n dX12_best_33 rfl (by decide) ex6.symm (ls' := [(0, .ref 101), (1, .int v1), (2, .int v2), (3, .int x6)]) [1, 2, 3, 0] rfl (pc2 := 34) rfl ?_
      refine e_iconst (x := 0) dX12_best_34 (by decide) (pc2 := 35) rfl ?_
      refine e_istore dX12_best_35 (by decide) rfl (ls' := [(0, .ref 101), (1, .int v1), (2, .int v2), (3, .int x6), (4, .int 0)]) [1, 2, 3, 4, 0] rfl (pc2 := 37) rfl ?_
      refine e_iconst (x := (-1)) dX12_best_37 (by decide) (pc2 := 38) rfl ?_
      refine e_istore dX12_best_38 (by decide) rfl (ls' := [(0, .ref 101), (1, .int v1), (2, .int v2), (3, .int x6), (4, .int 0), (5, .int (-1))]) [1, 2, 3, 4, 5, 0] rfl (pc2 := 40) rfl ?_
      refine e_iconst (x := 0) dX12_best_40 (by decide) (pc2 := 41) rfl ?_
      refine e_istore dX12_best_41 (by decide) rfl (ls' := [(0, .ref 101), (1, .int v1), (2, .int v2), (3, .int x6), (4, .int 0), (5, .int (-1)), (6, .int 0)]) [1, 2, 3, 4, 5, 6, 0] rfl (pc2 := 43) rfl ?_
      refine t_X12_best_l43 v1 v2 x6 _ ?_ FU 0 (-1) 0 s1 hf
      · intro v19 s20 hf
        refine e_aload_n dX12_best_110 0 rfl rfl (pc2 := 111) rfl ?_
        refine e_getR (r := 145) fl_X12_141 dX12_best_111 so_101 (rs_101_55 s20.2.2) (by decide) (pc2 := 114) rfl ?_
        refine e_iconst (x := 4) dX12_best_114 (by decide) (pc2 := 115) rfl ?_
        refine e_iload_n dX12_best_115 1 rfl rfl (pc2 := 116) rfl ?_
        refine e_iadd dX12_best_116 (pc2 := 117) rfl ?_
        refine e_iload_n dX12_best_117 2 rfl rfl (pc2 := 118) rfl ?_
        obtain ⟨g22, hf⟩ := gd_some hf
        obtain ⟨s21, es21, hf⟩ := ltb_s hf
        refine e_iast dX12_best_118 sa_145 (inb_v g22) (h2 := hp s21) (by rw [es21]; rfl) (pc2 := 119) rfl ?_
        refine e_iload dX12_best_119 3 rfl (pc2 := 121) rfl ?_
        cases hf
        exact e_iret rfl dX12_best_121
    · have hf := if_t c4 hf
      refine e_iconst (x := (-1)) dX12_best_23 (by decide) (pc2 := 24) rfl ?_
      cases hf
      exact e_iret rfl dX12_best_24
abbrev DDX12_trayOf : Nat := 1
def f_X12_trayOf_l57b (v2 : Int32) (v3 : Int32) (v4 : Int32) (v5 : Int32) (v6 : Int32) (k57 : Int32 → Int32 → Option Int32) (k99 : Int32 → Option Int32) (s : HS) : Option Int32 :=
  gd (inb v5 12) ((if (s.1 118 v5.toNatClampNeg) ≤ v6 then k99 v4 else gd (inb ((3 * v5) + v6) 36) (gd (inb (s.1 117 ((3 * v5) + v6).toNatClampNeg) 10) (ltb (v4 + ((s.1 110 (s.1 117 ((3 * v5) + v6).toNatClampNeg).toNatClampNeg) + v2)) fun x14 => ltb (v6 + 1) fun x15 => k57 x14 x15))))
set_option maxRecDepth 20000 in
set_option maxHeartbeats 2000000 in
theorem t_X12_trayOf_l57b (v2 : Int32) (v3 : Int32) (v4 : Int32) (v5 : Int32) (v6 : Int32) (s : HS) {x : Int32} (k57 : Int32 → Int32 → Option Int32) (hk57 : ∀ (a4 : Int32) (a6 : Int32), k57 a4 a6 = some x → Ev DDX12_trayOf miX12_trayOf NF (some (.int x)) NF (hp s) 57 NF [(0, .ref 101), (2, .int v2), (3, .int v3), (4, .int a4), (5, .int v5), (6, .int a6)] [] (hp s)) (k99 : Int32 → Option Int32) (hk99 : ∀ (a4 : Int32), k99 a4 = some x → Ev DDX12_trayOf miX12_trayOf NF (some (.int x)) NF (hp s) 99 NF [(0, .ref 101), (2, .int v2), (3, .int v3), (4, .int a4), (5, .int v5)] [] (hp s)) (hf : f_X12_trayOf_l57b v2 v3 v4 v5 v6 k57 k99 s = some x) : Ev DDX12_trayOf miX12_trayOf NF (some (.int x)) NF (hp s) 57 NF [(0, .ref 101), (2, .int v2), (3, .int v3), (4, .int v4), (5, .int v5), (6, .int v6)] [] (hp s) := by
  refine e_iload dX12_trayOf_57 5 rfl (pc2 := 59) rfl ?_
  refine e_aload_n dX12_trayOf_59 0 rfl rfl (pc2 := 60) rfl ?_
  refine e_getR (r := 118) fl_X12_59 dX12_trayOf_60 so_101 (rs_101_25 s.2.2) (by decide) (pc2 := 63) rfl ?_
  refine e_iload dX12_trayOf_63 4 rfl (pc2 := 65) rfl ?_
  obtain ⟨g10, hf⟩ := gd_some hf
  refine e_iald dX12_trayOf_65 sa_118 (inb_v g10) (pc2 := 66) rfl ?_
  refine e_icmp_ge (tgt := 99) dX12_trayOf_66 (by decide) (pc2 := 69) rfl (fun c11 => ?_) (fun c11 => ?_)
  · have hf := if_t c11 hf
    refine ev_sub [0, 1, 2, 3, 4] rfl ?_
    exact hk99 v4 hf
  · have hf := if_f c11 hf
    refine e_iload dX12_trayOf_69 3 rfl (pc2 := 71) rfl ?_
    refine e_aload_n dX12_trayOf_71 0 rfl rfl (pc2 := 72) rfl ?_
    refine e_getR (r := 110) fl_X12_35 dX12_trayOf_72 so_101 (rs_101_17 s.2.2) (by decide) (pc2 := 75) rfl ?_
    refine e_aload_n dX12_trayOf_75 0 rfl rfl (pc2 := 76) rfl ?_
    refine e_getR (r := 117) fl_X12_56 dX12_trayOf_76 so_101 (rs_101_24 s.2.2) (by decide) (pc2 := 79) rfl ?_
    refine e_iconst (x := 3) dX12_trayOf_79 (by decide) (pc2 := 80) rfl ?_
    refine e_iload dX12_trayOf_80 4 rfl (pc2 := 82) rfl ?_
    refine e_imul dX12_trayOf_82 (pc2 := 83) rfl ?_
    refine e_iload dX12_trayOf_83 5 rfl (pc2 := 85) rfl ?_
    refine e_iadd dX12_trayOf_85 (pc2 := 86) rfl ?_
    obtain ⟨g12, hf⟩ := gd_some hf
    refine e_iald dX12_trayOf_86 sa_117 (inb_v g12) (pc2 := 87) rfl ?_
    obtain ⟨g13, hf⟩ := gd_some hf
    refine e_iald dX12_trayOf_87 sa_110 (inb_v g13) (pc2 := 88) rfl ?_
    refine e_iload_n dX12_trayOf_88 1 rfl rfl (pc2 := 89) rfl ?_
    refine e_iadd dX12_trayOf_89 (pc2 := 90) rfl ?_
    refine e_iadd dX12_trayOf_90 (pc2 := 91) rfl ?_
    obtain ⟨x14, ex14, hf⟩ := ltb_s hf
    refine e_istore dX12_trayOf_91 (by decide) ex14.symm (ls' := [(0, .ref 101), (2, .int v2), (3, .int v3), (4, .int x14), (5, .int v5), (6, .int v6)]) [1, 2, 3, 0, 4, 5] rfl (pc2 := 93) rfl ?_
    obtain ⟨x15, ex15, hf⟩ := ltb_s hf
    refine e_iinc dX12_trayOf_93 5 rfl (c9 := 1) (by decide) ex15.symm (by decide) (ls' := [(0, .ref 101), (2, .int v2), (3, .int v3), (4, .int x14), (5, .int v5), (6, .int x15)]) [1, 2, 3, 4, 5, 0] rfl (pc2 := 96) rfl ?_
    refine e_goto (tgt := 57) dX12_trayOf_96 (by decide) ?_
    exact hk57 x14 x15 hf
def f_X12_trayOf_l57 (v2 : Int32) (v3 : Int32) (v5 : Int32) (k99 : Int32 → Option Int32) (s : HS) : Nat → Int32 → Int32 → Option Int32
  | 0, _, _ => none
  | n + 1, v4, v6 => f_X12_trayOf_l57b v2 v3 v4 v5 v6 (f_X12_trayOf_l57 v2 v3 v5 k99 s n) k99 s
set_option maxRecDepth 20000 in
set_option maxHeartbeats 2000000 in
theorem t_X12_trayOf_l57 (v2 : Int32) (v3 : Int32) (v5 : Int32) (s : HS) {x : Int32} (k99 : Int32 → Option Int32) (hk99 : ∀ (a4 : Int32), k99 a4 = some x → Ev DDX12_trayOf miX12_trayOf NF (some (.int x)) NF (hp s) 99 NF [(0, .ref 101), (2, .int v2), (3, .int v3), (4, .int a4), (5, .int v5)] [] (hp s)) : ∀ (n : Nat) (v4 : Int32) (v6 : Int32), f_X12_trayOf_l57 v2 v3 v5 k99 s n v4 v6 = some x → Ev DDX12_trayOf miX12_trayOf NF (some (.int x)) NF (hp s) 57 NF [(0, .ref 101), (2, .int v2), (3, .int v3), (4, .int v4), (5, .int v5), (6, .int v6)] [] (hp s) := by
  intro n
  induction n with
  | zero =>
    intro v4 v6 hf
    have hf : none = some x := hf
    cases hf
  | succ n ih =>
    intro v4 v6 hf
    exact t_X12_trayOf_l57b v2 v3 v4 v5 v6  s _ ih _ hk99 hf
def f_X12_trayOf_l8b (v2 : Int32) (v3 : Int32) (v4 : Int32) (v5 : Int32) (k8 : Int32 → Int32 → Int32 → Option Int32) (s : HS) : Option Int32 :=
  (if (s.1 103 2) ≤ v5 then some v4 else gd (inb v5 12) ((if (s.1 116 v5.toNatClampNeg) < v2 then ltb (v5 + 1) fun x5 => k8 v3 v4 x5 else gd (inb v5 12) ((if (s.1 118 v5.toNatClampNeg) ≤ v3 then gd (inb v5 12) (ltb (v3 - (s.1 118 v5.toNatClampNeg)) fun x9 => f_X12_trayOf_l57 v2 x9 v5 (fun v16 => ltb (v5 + 1) fun x17 => k8 x9 v16 x17) s FU v4 0) else ltb (v5 + 1) fun x18 => k8 v3 v4 x18)))))
set_option maxRecDepth 20000 in
set_option maxHeartbeats 2000000 in
theorem t_X12_trayOf_l8b (v2 : Int32) (v3 : Int32) (v4 : Int32) (v5 : Int32) (s : HS) {x : Int32} (k8 : Int32 → Int32 → Int32 → Option Int32) (hk8 : ∀ (a3 : Int32) (a4 : Int32) (a5 : Int32), k8 a3 a4 a5 = some x → Ev DDX12_trayOf miX12_trayOf NF (some (.int x)) NF (hp s) 8 NF [(0, .ref 101), (2, .int v2), (3, .int a3), (4, .int a4), (5, .int a5)] [] (hp s)) (hf : f_X12_trayOf_l8b v2 v3 v4 v5 k8 s = some x) : Ev DDX12_trayOf miX12_trayOf NF (some (.int x)) NF (hp s) 8 NF [(0, .ref 101), (2, .int v2), (3, .int v3), (4, .int v4), (5, .int v5)] [] (hp s) := by
  refine e_iload dX12_trayOf_8 4 rfl (pc2 := 10) rfl ?_
  refine e_aload_n dX12_trayOf_10 0 rfl rfl (pc2 := 11) rfl ?_
  refine e_getR (r := 103) fl_X12_13 dX12_trayOf_11 so_101 (rs_101_10 s.2.2) (by decide) (pc2 := 14) rfl ?_
  refine e_iconst (x := 2) dX12_trayOf_14 (by decide) (pc2 := 15) rfl ?_
  refine e_iald dX12_trayOf_15 sa_103 (inb_v (by decide)) (pc2 := 16) rfl ?_
  refine e_icmp_ge (tgt := 105) dX12_trayOf_16 (by decide) (pc2 := 19) rfl (fun c2 => ?_) (fun c2 => ?_)
  · have hf := if_t c2 hf
    refine e_iload dX12_trayOf_105 3 rfl (pc2 := 107) rfl ?_
    cases hf
    exact e_iret rfl dX12_trayOf_107
  · have hf := if_f c2 hf
    refine e_aload_n dX12_trayOf_19 0 rfl rfl (pc2 := 20) rfl ?_
    refine e_getR (r := 116) fl_X12_53 dX12_trayOf_20 so_101 (rs_101_23 s.2.2) (by decide) (pc2 := 23) rfl ?_
    refine e_iload dX12_trayOf_23 4 rfl (pc2 := 25) rfl ?_
    obtain ⟨g3, hf⟩ := gd_some hf
    refine e_iald dX12_trayOf_25 sa_116 (inb_v g3) (pc2 := 26) rfl ?_
    refine e_iload_n dX12_trayOf_26 1 rfl rfl (pc2 := 27) rfl ?_
    refine e_icmp_lt (tgt := 99) dX12_trayOf_27 (by decide) (pc2 := 30) rfl (fun c4 => ?_) (fun c4 => ?_)
    · have hf := if_t c4 hf
      obtain ⟨x5, ex5, hf⟩ := ltb_s hf
      refine e_iinc dX12_trayOf_99 4 rfl (c9 := 1) (by decide) ex5.symm (by decide) (ls' := [(0, .ref 101), (2, .int v2), (3, .int v3), (4, .int v4), (5, .int x5)]) [1, 2, 3, 4, 0] rfl (pc2 := 102) rfl ?_
      refine e_goto (tgt := 8) dX12_trayOf_102 (by decide) ?_
      exact hk8 v3 v4 x5 hf
    · have hf := if_f c4 hf
      refine e_aload_n dX12_trayOf_30 0 rfl rfl (pc2 := 31) rfl ?_
      refine e_getR (r := 118) fl_X12_59 dX12_trayOf_31 so_101 (rs_101_25 s.2.2) (by decide) (pc2 := 34) rfl ?_
      refine e_iload dX12_trayOf_34 4 rfl (pc2 := 36) rfl ?_
      obtain ⟨g6, hf⟩ := gd_some hf
      refine e_iald dX12_trayOf_36 sa_118 (inb_v g6) (pc2 := 37) rfl ?_
      refine e_iload_n dX12_trayOf_37 2 rfl rfl (pc2 := 38) rfl ?_
      refine e_icmp_le (tgt := 44) dX12_trayOf_38 (by decide) (pc2 := 41) rfl (fun c7 => ?_) (fun c7 => ?_)
      · have hf := if_t c7 hf
        refine e_iload_n dX12_trayOf_44 2 rfl rfl (pc2 := 45) rfl ?_
        refine e_aload_n dX12_trayOf_45 0 rfl rfl (pc2 := 46) rfl ?_
        refine e_getR (r := 118) fl_X12_59 dX12_trayOf_46 so_101 (rs_101_25 s.2.2) (by decide) (pc2 := 49) rfl ?_
        refine e_iload dX12_trayOf_49 4 rfl (pc2 := 51) rfl ?_
        obtain ⟨g8, hf⟩ := gd_some hf
        refine e_iald dX12_trayOf_51 sa_118 (inb_v g8) (pc2 := 52) rfl ?_
        refine e_isub dX12_trayOf_52 (pc2 := 53) rfl ?_
        obtain ⟨x9, ex9, hf⟩ := ltb_s hf
        refine e_istore_n dX12_trayOf_53 rfl (by decide) ex9.symm (ls' := [(0, .ref 101), (2, .int v2), (3, .int x9), (4, .int v4), (5, .int v5)]) [1, 2, 0, 3, 4] rfl (pc2 := 54) rfl ?_
        refine e_iconst (x := 0) dX12_trayOf_54 (by decide) (pc2 := 55) rfl ?_
        refine e_istore dX12_trayOf_55 (by decide) rfl (ls' := [(0, .ref 101), (2, .int v2), (3, .int x9), (4, .int v4), (5, .int v5), (6, .int 0)]) [1, 2, 3, 4, 5, 0] rfl (pc2 := 57) rfl ?_
        refine t_X12_trayOf_l57 v2 x9 v5 s _ ?_ FU v4 0 hf
        · intro v16 hf
          obtain ⟨x17, ex17, hf⟩ := ltb_s hf
          refine e_iinc dX12_trayOf_99 4 rfl (c9 := 1) (by decide) ex17.symm (by decide) (ls' := [(0, .ref 101), (2, .int v2), (3, .int x9), (4, .int v16), (5, .int x17)]) [1, 2, 3, 4, 0] rfl (pc2 := 102) rfl ?_
          refine e_goto (tgt := 8) dX12_trayOf_102 (by decide) ?_
          exact hk8 x9 v16 x17 hf
      · have hf := if_f c7 hf
        refine e_goto (tgt := 99) dX12_trayOf_41 (by decide) ?_
        obtain ⟨x18, ex18, hf⟩ := ltb_s hf
        refine e_iinc dX12_trayOf_99 4 rfl (c9 := 1) (by decide) ex18.symm (by decide) (ls' := [(0, .ref 101), (2, .int v2), (3, .int v3), (4, .int v4), (5, .int x18)]) [1, 2, 3, 4, 0] rfl (pc2 := 102) rfl ?_
        refine e_goto (tgt := 8) dX12_trayOf_102 (by decide) ?_
        exact hk8 v3 v4 x18 hf
def f_X12_trayOf_l8 (v2 : Int32) (s : HS) : Nat → Int32 → Int32 → Int32 → Option Int32
  | 0, _, _, _ => none
  | n + 1, v3, v4, v5 => f_X12_trayOf_l8b v2 v3 v4 v5 (f_X12_trayOf_l8 v2 s n)  s
set_option maxRecDepth 20000 in
set_option maxHeartbeats 2000000 in
theorem t_X12_trayOf_l8 (v2 : Int32) (s : HS) {x : Int32}  : ∀ (n : Nat) (v3 : Int32) (v4 : Int32) (v5 : Int32), f_X12_trayOf_l8 v2 s n v3 v4 v5 = some x → Ev DDX12_trayOf miX12_trayOf NF (some (.int x)) NF (hp s) 8 NF [(0, .ref 101), (2, .int v2), (3, .int v3), (4, .int v4), (5, .int v5)] [] (hp s) := by
  intro n
  induction n with
  | zero =>
    intro v3 v4 v5 hf
    have hf : none = some x := hf
    cases hf
  | succ n ih =>
    intro v3 v4 v5 hf
    exact t_X12_trayOf_l8b v2 v3 v4 v5  s _ ih  hf
def f_X12_trayOf (v1 : Int32) (v2 : Int32) (s : HS) : Option Int32 :=
  f_X12_trayOf_l8 v2 s FU v1 0 0
set_option maxRecDepth 20000 in
set_option maxHeartbeats 2000000 in
theorem t_X12_trayOf (v1 : Int32) (v2 : Int32) (s : HS) {x : Int32} (hf : f_X12_trayOf  v1 v2 s = some x) : Mt DDX12_trayOf miX12_trayOf [.ref 101, .int v1, .int v2] NF (hp s) (some (.int x)) NF (hp s) := by
  refine Mt.of (by decide +kernel) (Nat.le_refl _) (Nat.le_of_ble_eq_true rfl) ?_
  show Ev DDX12_trayOf miX12_trayOf NF (some (.int x)) NF (hp s) 0 NF [(0, .ref 101), (1, .int v1), (2, .int v2)] [] (hp s)
  unfold f_X12_trayOf at hf
  refine e_iload_n dX12_trayOf_0 1 rfl rfl (pc2 := 1) rfl ?_
  refine e_istore_n dX12_trayOf_1 rfl (by decide) rfl (ls' := [(0, .ref 101), (2, .int v2), (3, .int v1)]) [1, 3, 0] rfl (pc2 := 2) rfl ?_
  refine e_iconst (x := 0) dX12_trayOf_2 (by decide) (pc2 := 3) rfl ?_
  refine e_istore dX12_trayOf_3 (by decide) rfl (ls' := [(0, .ref 101), (2, .int v2), (3, .int v1), (4, .int 0)]) [1, 2, 3, 0] rfl (pc2 := 5) rfl ?_
  refine e_iconst (x := 0) dX12_trayOf_5 (by decide) (pc2 := 6) rfl ?_
  refine e_istore dX12_trayOf_6 (by decide) rfl (ls' := [(0, .ref 101), (2, .int v2), (3, .int v1), (4, .int 0), (5, .int 0)]) [1, 2, 3, 4, 0] rfl (pc2 := 8) rfl ?_
  refine t_X12_trayOf_l8 v2 s FU v1 0 0 hf
abbrev DDX12_tray : Nat := 2
def f_X12_tray (v1 : Int32) (v2 : Int32) (s : HS) : Option (Int32 × HS) :=
  ltb (sI s 101 0 0) fun s1 => (if (f_X12_within v1 0 36 s1) = 0 then some ((-1), s1) else (if (f_X12_within v2 0 99 s1) = 0 then some ((-1), s1) else bnd (f_X12_trayOf v1 v2 s1) fun y4 => some (y4, s1)))
set_option maxRecDepth 20000 in
set_option maxHeartbeats 2000000 in
theorem t_X12_tray (v1 : Int32) (v2 : Int32) (s : HS) {x : Int32} {t : HS} (hf : f_X12_tray  v1 v2 s = some (x, t)) : Mt DDX12_tray miX12_tray [.ref 101, .int v1, .int v2] NF (hp s) (some (.int x)) NF (hp t) := by
  refine Mt.of (by decide +kernel) (Nat.le_refl _) (Nat.le_of_ble_eq_true rfl) ?_
  show Ev DDX12_tray miX12_tray NF (some (.int x)) NF (hp t) 0 NF [(0, .ref 101), (1, .int v1), (2, .int v2)] [] (hp s)
  unfold f_X12_tray at hf
  refine e_aload_n dX12_tray_0 0 rfl rfl (pc2 := 1) rfl ?_
  refine e_iconst (x := 0) dX12_tray_1 (by decide) (pc2 := 2) rfl ?_
  obtain ⟨s1, es1, hf⟩ := ltb_s hf
  refine e_putI fl_X12_194 dX12_tray_2 so_101 fn_11_0 (h2 := hp s1) (by rw [es1]; rfl) (pc2 := 5) rfl ?_
  refine e_iload_n dX12_tray_5 1 rfl rfl (pc2 := 6) rfl ?_
  refine e_iconst (x := 0) dX12_tray_6 (by decide) (pc2 := 7) rfl ?_
  refine e_bipush (x := 36) dX12_tray_7 (by decide) (pc2 := 9) rfl ?_
  refine e_callSs (t_X12_within v1 0 36 s1 rfl) dX12_tray_9 cs_X12_343 rfl (by decide) (by first | exact Nat.le_of_ble_eq_true rfl | simp [rva_cat, vc_i, vc_r, vc_l, vc_n]) nn0 rfl (pc2 := 12) rfl ?_
  refine e_if_eq (tgt := 34) dX12_tray_12 (by decide) (pc2 := 15) rfl (fun c2 => ?_) (fun c2 => ?_)
  · have hf := if_t c2 hf
    refine e_iconst (x := (-1)) dX12_tray_34 (by decide) (pc2 := 35) rfl ?_
    cases hf
    exact e_iret rfl dX12_tray_35
  · have hf := if_f c2 hf
    refine e_iload_n dX12_tray_15 2 rfl rfl (pc2 := 16) rfl ?_
    refine e_iconst (x := 0) dX12_tray_16 (by decide) (pc2 := 17) rfl ?_
    refine e_bipush (x := 99) dX12_tray_17 (by decide) (pc2 := 19) rfl ?_
    refine e_callSs (t_X12_within v2 0 99 s1 rfl) dX12_tray_19 cs_X12_343 rfl (by decide) (by first | exact Nat.le_of_ble_eq_true rfl | simp [rva_cat, vc_i, vc_r, vc_l, vc_n]) nn0 rfl (pc2 := 22) rfl ?_
    refine e_if_eq (tgt := 34) dX12_tray_22 (by decide) (pc2 := 25) rfl (fun c3 => ?_) (fun c3 => ?_)
    · have hf := if_t c3 hf
      refine e_iconst (x := (-1)) dX12_tray_34 (by decide) (pc2 := 35) rfl ?_
      cases hf
      exact e_iret rfl dX12_tray_35
    · have hf := if_f c3 hf
      refine e_aload_n dX12_tray_25 0 rfl rfl (pc2 := 26) rfl ?_
      refine e_iload_n dX12_tray_26 1 rfl rfl (pc2 := 27) rfl ?_
      refine e_iload_n dX12_tray_27 2 rfl rfl (pc2 := 28) rfl ?_
      obtain ⟨y4, hy4, hf⟩ := bnd_s hf
      refine e_callVs (t_X12_trayOf v1 v2 s1 hy4) dX12_tray_28 cv_X12_569 rfl so_101 rc_11 (by decide) (by first | exact Nat.le_of_ble_eq_true rfl | simp [rva_cat, vc_i, vc_r, vc_l, vc_n]) nn0 rfl (pc2 := 31) rfl ?_
      refine e_goto (tgt := 35) dX12_tray_31 (by decide) ?_
      cases hf
      exact e_iret rfl dX12_tray_35
abbrev DDX12_price : Nat := 2
def f_X12_price_l24b (v1 : Int32) (v2 : Int32) (v3 : Int32) (v4 : Int32) (k24 : Int32 → Int32 → Int32 → HS → Option (Int32 × HS)) (s : HS) : Option (Int32 × HS) :=
  (if 100 ≤ v4 then some (v2, s) else bnd (f_X12_trayOf v1 v4 s) fun y4 => (if v3 < y4 then ltb (v4 + 1) fun x6 => k24 v4 y4 x6 s else ltb (v4 + 1) fun x7 => k24 v2 v3 x7 s))
set_option maxRecDepth 20000 in
set_option maxHeartbeats 2000000 in
theorem t_X12_price_l24b (v1 : Int32) (v2 : Int32) (v3 : Int32) (v4 : Int32) (s : HS) {x : Int32} {t : HS} (k24 : Int32 → Int32 → Int32 → HS → Option (Int32 × HS)) (hk24 : ∀ (a2 : Int32) (a3 : Int32) (a4 : Int32) (s : HS), k24 a2 a3 a4 s = some (x, t) → Ev DDX12_price miX12_price NF (some (.int x)) NF (hp t) 24 NF [(0, .ref 101), (1, .int v1), (2, .int a2), (3, .int a3), (4, .int a4)] [] (hp s)) (hf : f_X12_price_l24b v1 v2 v3 v4 k24 s = some (x, t)) : Ev DDX12_price miX12_price NF (some (.int x)) NF (hp t) 24 NF [(0, .ref 101), (1, .int v1), (2, .int v2), (3, .int v3), (4, .int v4)] [] (hp s) := by
  refine e_iload dX12_price_24 4 rfl (pc2 := 26) rfl ?_
  refine e_bipush (x := 100) dX12_price_26 (by decide) (pc2 := 28) rfl ?_
  refine e_icmp_ge (tgt := 61) dX12_price_28 (by decide) (pc2 := 31) rfl (fun c3 => ?_) (fun c3 => ?_)
  · have hf := if_t c3 hf
    refine e_iload_n dX12_price_61 2 rfl rfl (pc2 := 62) rfl ?_
    cases hf
    exact e_iret rfl dX12_price_62
  · have hf := if_f c3 hf
    refine e_aload_n dX12_price_31 0 rfl rfl (pc2 := 32) rfl ?_
    refine e_iload_n dX12_price_32 1 rfl rfl (pc2 := 33) rfl ?_
    refine e_iload dX12_price_33 4 rfl (pc2 := 35) rfl ?_
    obtain ⟨y4, hy4, hf⟩ := bnd_s hf
    refine e_callVs (t_X12_trayOf v1 v4 s hy4) dX12_price_35 cv_X12_569 rfl so_101 rc_11 (by decide) (by first | exact Nat.le_of_ble_eq_true rfl | simp [rva_cat, vc_i, vc_r, vc_l, vc_n]) nn0 rfl (pc2 := 38) rfl ?_
    refine e_istore dX12_price_38 (by decide) rfl (ls' := [(0, .ref 101), (1, .int v1), (2, .int v2), (3, .int v3), (4, .int v4), (5, .int y4)]) [1, 2, 3, 4, 5, 0] rfl (pc2 := 40) rfl ?_
    refine e_iload dX12_price_40 5 rfl (pc2 := 42) rfl ?_
    refine e_iload_n dX12_price_42 3 rfl rfl (pc2 := 43) rfl ?_
    refine e_icmp_gt (tgt := 49) dX12_price_43 (by decide) (pc2 := 46) rfl (fun c5 => ?_) (fun c5 => ?_)
    · have hf := if_t c5 hf
      refine e_iload dX12_price_49 5 rfl (pc2 := 51) rfl ?_
      refine e_istore_n dX12_price_51 rfl (by decide) rfl (ls' := [(0, .ref 101), (1, .int v1), (3, .int y4), (4, .int v4)]) [1, 2, 0, 4] rfl (pc2 := 52) rfl ?_
      refine e_iload dX12_price_52 3 rfl (pc2 := 54) rfl ?_
      refine e_istore_n dX12_price_54 rfl (by decide) rfl (ls' := [(0, .ref 101), (1, .int v1), (2, .int v4), (3, .int y4), (4, .int v4)]) [1, 2, 0, 3, 4] rfl (pc2 := 55) rfl ?_
      obtain ⟨x6, ex6, hf⟩ := ltb_s hf
      refine e_iinc dX12_price_55 4 rfl (c9 := 1) (by decide) ex6.symm (by decide) (ls' := [(0, .ref 101), (1, .int v1), (2, .int v4), (3, .int y4), (4, .int x6)]) [1, 2, 3, 4, 0] rfl (pc2 := 58) rfl ?_
      refine e_goto (tgt := 24) dX12_price_58 (by decide) ?_
      exact hk24 v4 y4 x6 s hf
    · have hf := if_f c5 hf
      refine e_goto (tgt := 55) dX12_price_46 (by decide) ?_
      obtain ⟨x7, ex7, hf⟩ := ltb_s hf
      refine e_iinc dX12_price_55 4 rfl (c9 := 1) (by decide) ex7.symm (by decide) (ls' := [(0, .ref 101), (1, .int v1), (2, .int v2), (3, .int v3), (4, .int x7)]) [1, 2, 3, 4, 0] rfl (pc2 := 58) rfl ?_
      refine e_goto (tgt := 24) dX12_price_58 (by decide) ?_
      exact hk24 v2 v3 x7 s hf
def f_X12_price_l24 (v1 : Int32) : Nat → Int32 → Int32 → Int32 → HS → Option (Int32 × HS)
  | 0, _, _, _, _ => none
  | n + 1, v2, v3, v4, s => f_X12_price_l24b v1 v2 v3 v4 (f_X12_price_l24 v1 n)  s
set_option maxRecDepth 20000 in
set_option maxHeartbeats 2000000 in
theorem t_X12_price_l24 (v1 : Int32) {x : Int32} {t : HS}  : ∀ (n : Nat) (v2 : Int32) (v3 : Int32) (v4 : Int32) (s : HS), f_X12_price_l24 v1 n v2 v3 v4 s = some (x, t) → Ev DDX12_price miX12_price NF (some (.int x)) NF (hp t) 24 NF [(0, .ref 101), (1, .int v1), (2, .int v2), (3, .int v3), (4, .int v4)] [] (hp s) := by
  intro n
  induction n with
  | zero =>
    intro v2 v3 v4 s hf
    have hf : none = some (x, t) := hf
    cases hf
  | succ n ih =>
    intro v2 v3 v4 s hf
    exact t_X12_price_l24b v1 v2 v3 v4  s _ ih  hf
def f_X12_price (v1 : Int32) (s : HS) : Option (Int32 × HS) :=
  ltb (sI s 101 0 0) fun s1 => (if (f_X12_within v1 0 36 s1) = 0 then some ((-1), s1) else f_X12_price_l24 v1 FU 0 (-1) 0 s1)
set_option maxRecDepth 20000 in
set_option maxHeartbeats 2000000 in
theorem t_X12_price (v1 : Int32) (s : HS) {x : Int32} {t : HS} (hf : f_X12_price  v1 s = some (x, t)) : Mt DDX12_price miX12_price [.ref 101, .int v1] NF (hp s) (some (.int x)) NF (hp t) := by
  refine Mt.of (by decide +kernel) (Nat.le_refl _) (Nat.le_of_ble_eq_true rfl) ?_
  show Ev DDX12_price miX12_price NF (some (.int x)) NF (hp t) 0 NF [(0, .ref 101), (1, .int v1)] [] (hp s)
  unfold f_X12_price at hf
  refine e_aload_n dX12_price_0 0 rfl rfl (pc2 := 1) rfl ?_
  refine e_iconst (x := 0) dX12_price_1 (by decide) (pc2 := 2) rfl ?_
  obtain ⟨s1, es1, hf⟩ := ltb_s hf
  refine e_putI fl_X12_194 dX12_price_2 so_101 fn_11_0 (h2 := hp s1) (by rw [es1]; rfl) (pc2 := 5) rfl ?_
  refine e_iload_n dX12_price_5 1 rfl rfl (pc2 := 6) rfl ?_
  refine e_iconst (x := 0) dX12_price_6 (by decide) (pc2 := 7) rfl ?_
  refine e_bipush (x := 36) dX12_price_7 (by decide) (pc2 := 9) rfl ?_
  refine e_callSs (t_X12_within v1 0 36 s1 rfl) dX12_price_9 cs_X12_343 rfl (by decide) (by first | exact Nat.le_of_ble_eq_true rfl | simp [rva_cat, vc_i, vc_r, vc_l, vc_n]) nn0 rfl (pc2 := 12) rfl ?_
  refine e_if_ne (tgt := 17) dX12_price_12 (by decide) (pc2 := 15) rfl (fun c2 => ?_) (fun c2 => ?_)
  · have hf := if_f c2 hf
    refine e_iconst (x := 0) dX12_price_17 (by decide) (pc2 := 18) rfl ?_
    refine e_istore_n dX12_price_18 rfl (by decide) rfl (ls' := [(0, .ref 101), (1, .int v1), (2, .int 0)]) [1, 2, 0] rfl (pc2 := 19) rfl ?_
    refine e_iconst (x := (-1)) dX12_price_19 (by decide) (pc2 := 20) rfl ?_
    refine e_istore_n dX12_price_20 rfl (by decide) rfl (ls' := [(0, .ref 101), (1, .int v1), (2, .int 0), (3, .int (-1))]) [1, 2, 3, 0] rfl (pc2 := 21) rfl ?_
    refine e_iconst (x := 0) dX12_price_21 (by decide) (pc2 := 22) rfl ?_
    refine e_istore dX12_price_22 (by decide) rfl (ls' := [(0, .ref 101), (1, .int v1), (2, .int 0), (3, .int (-1)), (4, .int 0)]) [1, 2, 3, 4, 0] rfl (pc2 := 24) rfl ?_
    refine t_X12_price_l24 v1 FU 0 (-1) 0 s1 hf
  · have hf := if_t c2 hf
    refine e_iconst (x := (-1)) dX12_price_15 (by decide) (pc2 := 16) rfl ?_
    cases hf
    exact e_iret rfl dX12_price_16
abbrev DDX12_aheadOf : Nat := 7
def f_X12_aheadOf_l10b (v2 : Int32) (v3 : Int32) (v4 : Int32) (k10 : Int32 → Int32 → HS → Option (Int32 × HS)) (k70 : Int32 → HS → Option (Int32 × HS)) (s : HS) : Option (Int32 × HS) :=
  (if 4 ≤ v4 then k70 v3 s else gd (inb v4 8) ((if (s.1 119 v4.toNatClampNeg) = 0 then ltb (v4 + 1) fun x13 => k10 v3 x13 s else ltb (sI s 101 66 v4) fun s5 => ltb (sI s5 101 65 v2) fun s6 => bnd (f_X12_runs s6) fun s8 => gd (inb v4 8) (bnd (f_X12_drunkInAll s8) fun y10 => ltb (v3 + ((s8.1 119 v4.toNatClampNeg) * (y10 - (s8.1 101 65)))) fun x11 => ltb (v4 + 1) fun x12 => k10 x11 x12 s8))))
set_option maxRecDepth 20000 in
set_option maxHeartbeats 2000000 in
theorem t_X12_aheadOf_l10b (v2 : Int32) (v3 : Int32) (v4 : Int32) (s : HS) {x : Int32} {t : HS} (k10 : Int32 → Int32 → HS → Option (Int32 × HS)) (hk10 : ∀ (a3 : Int32) (a4 : Int32) (s : HS), k10 a3 a4 s = some (x, t) → Ev DDX12_aheadOf miX12_aheadOf NF (some (.int x)) NF (hp t) 10 NF [(0, .ref 101), (2, .int v2), (3, .int a3), (4, .int a4)] [] (hp s)) (k70 : Int32 → HS → Option (Int32 × HS)) (hk70 : ∀ (a3 : Int32) (s : HS), k70 a3 s = some (x, t) → Ev DDX12_aheadOf miX12_aheadOf NF (some (.int x)) NF (hp t) 70 NF [(0, .ref 101), (3, .int a3)] [] (hp s)) (hf : f_X12_aheadOf_l10b v2 v3 v4 k10 k70 s = some (x, t)) : Ev DDX12_aheadOf miX12_aheadOf NF (some (.int x)) NF (hp t) 10 NF [(0, .ref 101), (2, .int v2), (3, .int v3), (4, .int v4)] [] (hp s) := by
  refine e_iload dX12_aheadOf_10 3 rfl (pc2 := 12) rfl ?_
  refine e_iconst (x := 4) dX12_aheadOf_12 (by decide) (pc2 := 13) rfl ?_
  refine e_icmp_ge (tgt := 70) dX12_aheadOf_13 (by decide) (pc2 := 16) rfl (fun c2 => ?_) (fun c2 => ?_)
  · have hf := if_t c2 hf
    refine ev_sub [0, 2] rfl ?_
    exact hk70 v3 s hf
  · have hf := if_f c2 hf
    refine e_aload_n dX12_aheadOf_16 0 rfl rfl (pc2 := 17) rfl ?_
    refine e_getR (r := 119) fl_X12_62 dX12_aheadOf_17 so_101 (rs_101_26 s.2.2) (by decide) (pc2 := 20) rfl ?_
    refine e_iload dX12_aheadOf_20 3 rfl (pc2 := 22) rfl ?_
    obtain ⟨g3, hf⟩ := gd_some hf
    refine e_iald dX12_aheadOf_22 sa_119 (inb_v g3) (pc2 := 23) rfl ?_
    refine e_if_ne (tgt := 29) dX12_aheadOf_23 (by decide) (pc2 := 26) rfl (fun c4 => ?_) (fun c4 => ?_)
    · have hf := if_f c4 hf
      refine e_aload_n dX12_aheadOf_29 0 rfl rfl (pc2 := 30) rfl ?_
      refine e_iload dX12_aheadOf_30 3 rfl (pc2 := 32) rfl ?_
      obtain ⟨s5, es5, hf⟩ := ltb_s hf
      refine e_putI fl_X12_497 dX12_aheadOf_32 so_101 fn_11_66 (h2 := hp s5) (by rw [es5]; rfl) (pc2 := 35) rfl ?_
      refine e_aload_n dX12_aheadOf_35 0 rfl rfl (pc2 := 36) rfl ?_
      refine e_iload_n dX12_aheadOf_36 1 rfl rfl (pc2 := 37) rfl ?_
      obtain ⟨s6, es6, hf⟩ := ltb_s hf
      refine e_putI fl_X12_464 dX12_aheadOf_37 so_101 fn_11_65 (h2 := hp s6) (by rw [es6]; rfl) (pc2 := 40) rfl ?_
      refine e_aload_n dX12_aheadOf_40 0 rfl rfl (pc2 := 41) rfl ?_
      obtain ⟨s8, hy7, hf⟩ := bnd_s hf
      refine e_callVn (t_X12_runs  s6 hy7) dX12_aheadOf_41 cv_X12_528 rfl so_101 rc_11 (by decide) (by first | exact Nat.le_of_ble_eq_true rfl | simp [rva_cat, vc_i, vc_r, vc_l, vc_n]) nn0 rfl (pc2 := 44) rfl ?_
      refine e_iload_n dX12_aheadOf_44 2 rfl rfl (pc2 := 45) rfl ?_
      refine e_aload_n dX12_aheadOf_45 0 rfl rfl (pc2 := 46) rfl ?_
      refine e_getR (r := 119) fl_X12_62 dX12_aheadOf_46 so_101 (rs_101_26 s8.2.2) (by decide) (pc2 := 49) rfl ?_
      refine e_iload dX12_aheadOf_49 3 rfl (pc2 := 51) rfl ?_
      obtain ⟨g9, hf⟩ := gd_some hf
      refine e_iald dX12_aheadOf_51 sa_119 (inb_v g9) (pc2 := 52) rfl ?_
      refine e_aload_n dX12_aheadOf_52 0 rfl rfl (pc2 := 53) rfl ?_
      obtain ⟨y10, hy10, hf⟩ := bnd_s hf
      refine e_callVs (t_X12_drunkInAll  s8 hy10) dX12_aheadOf_53 cv_X12_540 rfl so_101 rc_11 (by decide) (by first | exact Nat.le_of_ble_eq_true rfl | simp [rva_cat, vc_i, vc_r, vc_l, vc_n]) nn0 rfl (pc2 := 56) rfl ?_
      refine e_aload_n dX12_aheadOf_56 0 rfl rfl (pc2 := 57) rfl ?_
      refine e_getI fl_X12_464 dX12_aheadOf_57 so_101 (by decide) (pc2 := 60) rfl ?_
      refine e_isub dX12_aheadOf_60 (pc2 := 61) rfl ?_
      refine e_imul dX12_aheadOf_61 (pc2 := 62) rfl ?_
      refine e_iadd dX12_aheadOf_62 (pc2 := 63) rfl ?_
      obtain ⟨x11, ex11, hf⟩ := ltb_s hf
      refine e_istore_n dX12_aheadOf_63 rfl (by decide) ex11.symm (ls' := [(0, .ref 101), (2, .int v2), (3, .int x11), (4, .int v4)]) [1, 2, 0, 3] rfl (pc2 := 64) rfl ?_
      obtain ⟨x12, ex12, hf⟩ := ltb_s hf
      refine e_iinc dX12_aheadOf_64 3 rfl (c9 := 1) (by decide) ex12.symm (by decide) (ls' := [(0, .ref 101), (2, .int v2), (3, .int x11), (4, .int x12)]) [1, 2, 3, 0] rfl (pc2 := 67) rfl ?_
      refine e_goto (tgt := 10) dX12_aheadOf_67 (by decide) ?_
      exact hk10 x11 x12 s8 hf
    · have hf := if_t c4 hf
      refine e_goto (tgt := 64) dX12_aheadOf_26 (by decide) ?_
      obtain ⟨x13, ex13, hf⟩ := ltb_s hf
      refine e_iinc dX12_aheadOf_64 3 rfl (c9 := 1) (by decide) ex13.symm (by decide) (ls' := [(0, .ref 101), (2, .int v2), (3, .int v3), (4, .int x13)]) [1, 2, 3, 0] rfl (pc2 := 67) rfl ?_
      refine e_goto (tgt := 10) dX12_aheadOf_67 (by decide) ?_
      exact hk10 v3 x13 s hf
def f_X12_aheadOf_l10 (v2 : Int32) (k70 : Int32 → HS → Option (Int32 × HS)) : Nat → Int32 → Int32 → HS → Option (Int32 × HS)
  | 0, _, _, _ => none
  | n + 1, v3, v4, s => f_X12_aheadOf_l10b v2 v3 v4 (f_X12_aheadOf_l10 v2 k70 n) k70 s
set_option maxRecDepth 20000 in
set_option maxHeartbeats 2000000 in
theorem t_X12_aheadOf_l10 (v2 : Int32) {x : Int32} {t : HS} (k70 : Int32 → HS → Option (Int32 × HS)) (hk70 : ∀ (a3 : Int32) (s : HS), k70 a3 s = some (x, t) → Ev DDX12_aheadOf miX12_aheadOf NF (some (.int x)) NF (hp t) 70 NF [(0, .ref 101), (3, .int a3)] [] (hp s)) : ∀ (n : Nat) (v3 : Int32) (v4 : Int32) (s : HS), f_X12_aheadOf_l10 v2 k70 n v3 v4 s = some (x, t) → Ev DDX12_aheadOf miX12_aheadOf NF (some (.int x)) NF (hp t) 10 NF [(0, .ref 101), (2, .int v2), (3, .int v3), (4, .int v4)] [] (hp s) := by
  intro n
  induction n with
  | zero =>
    intro v3 v4 s hf
    have hf : none = some (x, t) := hf
    cases hf
  | succ n ih =>
    intro v3 v4 s hf
    exact t_X12_aheadOf_l10b v2 v3 v4  s _ ih _ hk70 hf
def f_X12_aheadOf (v1 : Int32) (v2 : Int32) (s : HS) : Option (Int32 × HS) :=
  ltb (sI s 101 64 v1) fun s1 => f_X12_aheadOf_l10 v2 (fun v14 s15 => ltb (sI s15 101 64 (-1)) fun s16 => ltb (sI s16 101 66 0) fun s17 => some (v14 * 100, s17)) FU 0 0 s1
set_option maxRecDepth 20000 in
set_option maxHeartbeats 2000000 in
theorem t_X12_aheadOf (v1 : Int32) (v2 : Int32) (s : HS) {x : Int32} {t : HS} (hf : f_X12_aheadOf  v1 v2 s = some (x, t)) : Mt DDX12_aheadOf miX12_aheadOf [.ref 101, .int v1, .int v2] NF (hp s) (some (.int x)) NF (hp t) := by
  refine Mt.of (by decide +kernel) (Nat.le_refl _) (Nat.le_of_ble_eq_true rfl) ?_
  show Ev DDX12_aheadOf miX12_aheadOf NF (some (.int x)) NF (hp t) 0 NF [(0, .ref 101), (1, .int v1), (2, .int v2)] [] (hp s)
  unfold f_X12_aheadOf at hf
  refine e_iconst (x := 0) dX12_aheadOf_0 (by decide) (pc2 := 1) rfl ?_
  refine e_istore_n dX12_aheadOf_1 rfl (by decide) rfl (ls' := [(0, .ref 101), (1, .int v1), (2, .int v2), (3, .int 0)]) [1, 2, 3, 0] rfl (pc2 := 2) rfl ?_
  refine e_aload_n dX12_aheadOf_2 0 rfl rfl (pc2 := 3) rfl ?_
  refine e_iload_n dX12_aheadOf_3 1 rfl rfl (pc2 := 4) rfl ?_
  obtain ⟨s1, es1, hf⟩ := ltb_s hf
  refine e_putI fl_X12_160 dX12_aheadOf_4 so_101 fn_11_64 (h2 := hp s1) (by rw [es1]; rfl) (pc2 := 7) rfl ?_
  refine e_iconst (x := 0) dX12_aheadOf_7 (by decide) (pc2 := 8) rfl ?_
  refine e_istore dX12_aheadOf_8 (by decide) rfl (ls' := [(0, .ref 101), (2, .int v2), (3, .int 0), (4, .int 0)]) [1, 3, 4, 0] rfl (pc2 := 10) rfl ?_
  refine t_X12_aheadOf_l10 v2 _ ?_ FU 0 0 s1 hf
  · intro v14 s15 hf
    refine e_aload_n dX12_aheadOf_70 0 rfl rfl (pc2 := 71) rfl ?_
    refine e_iconst (x := (-1)) dX12_aheadOf_71 (by decide) (pc2 := 72) rfl ?_
    obtain ⟨s16, es16, hf⟩ := ltb_s hf
    refine e_putI fl_X12_160 dX12_aheadOf_72 so_101 fn_11_64 (h2 := hp s16) (by rw [es16]; rfl) (pc2 := 75) rfl ?_
    refine e_aload_n dX12_aheadOf_75 0 rfl rfl (pc2 := 76) rfl ?_
    refine e_iconst (x := 0) dX12_aheadOf_76 (by decide) (pc2 := 77) rfl ?_
    obtain ⟨s17, es17, hf⟩ := ltb_s hf
    refine e_putI fl_X12_497 dX12_aheadOf_77 so_101 fn_11_66 (h2 := hp s17) (by rw [es17]; rfl) (pc2 := 80) rfl ?_
    refine e_iload_n dX12_aheadOf_80 1 rfl rfl (pc2 := 81) rfl ?_
    refine e_bipush (x := 100) dX12_aheadOf_81 (by decide) (pc2 := 83) rfl ?_
    refine e_imul dX12_aheadOf_83 (pc2 := 84) rfl ?_
    cases hf
    exact e_iret rfl dX12_aheadOf_84
abbrev DDX12_ahead : Nat := 8
def f_X12_ahead (v1 : Int32) (v2 : Int32) (s : HS) : Option (Int32 × HS) :=
  ltb (sI s 101 0 0) fun s1 => (if (f_X12_isThing v1 s1) = 0 then some ((-1), s1) else gd (inb v1 10) ((if (s1.1 108 v1.toNatClampNeg) = 2 then some ((-1), s1) else (if (f_X12_within v2 0 12 s1) = 0 then some ((-1), s1) else bnd2 (f_X12_aheadOf v1 v2 s1) fun y6 s7 => some (y6, s7)))))
set_option maxRecDepth 20000 in
set_option maxHeartbeats 2000000 in
theorem t_X12_ahead (v1 : Int32) (v2 : Int32) (s : HS) {x : Int32} {t : HS} (hf : f_X12_ahead  v1 v2 s = some (x, t)) : Mt DDX12_ahead miX12_ahead [.ref 101, .int v1, .int v2] NF (hp s) (some (.int x)) NF (hp t) := by
  refine Mt.of (by decide +kernel) (Nat.le_refl _) (Nat.le_of_ble_eq_true rfl) ?_
  show Ev DDX12_ahead miX12_ahead NF (some (.int x)) NF (hp t) 0 NF [(0, .ref 101), (1, .int v1), (2, .int v2)] [] (hp s)
  unfold f_X12_ahead at hf
  refine e_aload_n dX12_ahead_0 0 rfl rfl (pc2 := 1) rfl ?_
  refine e_iconst (x := 0) dX12_ahead_1 (by decide) (pc2 := 2) rfl ?_
  obtain ⟨s1, es1, hf⟩ := ltb_s hf
  refine e_putI fl_X12_194 dX12_ahead_2 so_101 fn_11_0 (h2 := hp s1) (by rw [es1]; rfl) (pc2 := 5) rfl ?_
  refine e_aload_n dX12_ahead_5 0 rfl rfl (pc2 := 6) rfl ?_
  refine e_iload_n dX12_ahead_6 1 rfl rfl (pc2 := 7) rfl ?_
  refine e_callVs (t_X12_isThing v1 s1 rfl) dX12_ahead_7 cv_X12_507 rfl so_101 rc_11 (by decide) (by first | exact Nat.le_of_ble_eq_true rfl | simp [rva_cat, vc_i, vc_r, vc_l, vc_n]) nn0 rfl (pc2 := 10) rfl ?_
  refine e_if_eq (tgt := 42) dX12_ahead_10 (by decide) (pc2 := 13) rfl (fun c2 => ?_) (fun c2 => ?_)
  · have hf := if_t c2 hf
    refine e_iconst (x := (-1)) dX12_ahead_42 (by decide) (pc2 := 43) rfl ?_
    cases hf
    exact e_iret rfl dX12_ahead_43
  · have hf := if_f c2 hf
    refine e_aload_n dX12_ahead_13 0 rfl rfl (pc2 := 14) rfl ?_
    refine e_getR (r := 108) fl_X12_29 dX12_ahead_14 so_101 (rs_101_15 s1.2.2) (by decide) (pc2 := 17) rfl ?_
    refine e_iload_n dX12_ahead_17 1 rfl rfl (pc2 := 18) rfl ?_
    obtain ⟨g3, hf⟩ := gd_some hf
    refine e_iald dX12_ahead_18 sa_108 (inb_v g3) (pc2 := 19) rfl ?_
    refine e_iconst (x := 2) dX12_ahead_19 (by decide) (pc2 := 20) rfl ?_
    refine e_icmp_eq (tgt := 42) dX12_ahead_20 (by decide) (pc2 := 23) rfl (fun c4 => ?_) (fun c4 => ?_)
    · have hf := if_t c4 hf
      refine e_iconst (x := (-1)) dX12_ahead_42 (by decide) (pc2 := 43) rfl ?_
      cases hf
      exact e_iret rfl dX12_ahead_43
    · have hf := if_f c4 hf
      refine e_iload_n dX12_ahead_23 2 rfl rfl (pc2 := 24) rfl ?_
      refine e_iconst (x := 0) dX12_ahead_24 (by decide) (pc2 := 25) rfl ?_
      refine e_bipush (x := 12) dX12_ahead_25 (by decide) (pc2 := 27) rfl ?_
      refine e_callSs (t_X12_within v2 0 12 s1 rfl) dX12_ahead_27 cs_X12_343 rfl (by decide) (by first | exact Nat.le_of_ble_eq_true rfl | simp [rva_cat, vc_i, vc_r, vc_l, vc_n]) nn0 rfl (pc2 := 30) rfl ?_
      refine e_if_eq (tgt := 42) dX12_ahead_30 (by decide) (pc2 := 33) rfl (fun c5 => ?_) (fun c5 => ?_)
      · have hf := if_t c5 hf
        refine e_iconst (x := (-1)) dX12_ahead_42 (by decide) (pc2 := 43) rfl ?_
        cases hf
        exact e_iret rfl dX12_ahead_43
      · have hf := if_f c5 hf
        refine e_aload_n dX12_ahead_33 0 rfl rfl (pc2 := 34) rfl ?_
        refine e_iload_n dX12_ahead_34 1 rfl rfl (pc2 := 35) rfl ?_
        refine e_iload_n dX12_ahead_35 2 rfl rfl (pc2 := 36) rfl ?_
        obtain ⟨y6, s7, hy6, hf⟩ := bnd2_s hf
        refine e_callVs (t_X12_aheadOf v1 v2 s1 hy6) dX12_ahead_36 cv_X12_572 rfl so_101 rc_11 (by decide) (by first | exact Nat.le_of_ble_eq_true rfl | simp [rva_cat, vc_i, vc_r, vc_l, vc_n]) nn0 rfl (pc2 := 39) rfl ?_
        refine e_goto (tgt := 43) dX12_ahead_39 (by decide) ?_
        cases hf
        exact e_iret rfl dX12_ahead_43
abbrev DDX12_most : Nat := 8
def f_X12_most_l37b (v1 : Int32) (v2 : Int32) (v3 : Int32) (v4 : Int32) (k37 : Int32 → Int32 → Int32 → HS → Option (Int32 × HS)) (s : HS) : Option (Int32 × HS) :=
  (if 13 ≤ v4 then some (v2, s) else bnd2 (f_X12_aheadOf v1 v4 s) fun y8 s9 => (if v3 < y8 then ltb (v4 + 1) fun x11 => k37 v4 y8 x11 s9 else ltb (v4 + 1) fun x12 => k37 v2 v3 x12 s9))
set_option maxRecDepth 20000 in
set_option maxHeartbeats 2000000 in
theorem t_X12_most_l37b (v1 : Int32) (v2 : Int32) (v3 : Int32) (v4 : Int32) (s : HS) {x : Int32} {t : HS} (k37 : Int32 → Int32 → Int32 → HS → Option (Int32 × HS)) (hk37 : ∀ (a2 : Int32) (a3 : Int32) (a4 : Int32) (s : HS), k37 a2 a3 a4 s = some (x, t) → Ev DDX12_most miX12_most NF (some (.int x)) NF (hp t) 37 NF [(0, .ref 101), (1, .int v1), (2, .int a2), (3, .int a3), (4, .int a4)] [] (hp s)) (hf : f_X12_most_l37b v1 v2 v3 v4 k37 s = some (x, t)) : Ev DDX12_most miX12_most NF (some (.int x)) NF (hp t) 37 NF [(0, .ref 101), (1, .int v1), (2, .int v2), (3, .int v3), (4, .int v4)] [] (hp s) := by
  refine e_iload dX12_most_37 4 rfl (pc2 := 39) rfl ?_
  refine e_bipush (x := 13) dX12_most_39 (by decide) (pc2 := 41) rfl ?_
  refine e_icmp_ge (tgt := 74) dX12_most_41 (by decide) (pc2 := 44) rfl (fun c7 => ?_) (fun c7 => ?_)
  · have hf := if_t c7 hf
    refine e_iload_n dX12_most_74 2 rfl rfl (pc2 := 75) rfl ?_
    cases hf
    exact e_iret rfl dX12_most_75
  · have hf := if_f c7 hf
    refine e_aload_n dX12_most_44 0 rfl rfl (pc2 := 45) rfl ?_
    refine e_iload_n dX12_most_45 1 rfl rfl (pc2 := 46) rfl ?_
    refine e_iload dX12_most_46 4 rfl (pc2 := 48) rfl ?_
    obtain ⟨y8, s9, hy8, hf⟩ := bnd2_s hf
    refine e_callVs (t_X12_aheadOf v1 v4 s hy8) dX12_most_48 cv_X12_572 rfl so_101 rc_11 (by decide) (by first | exact Nat.le_of_ble_eq_true rfl | simp [rva_cat, vc_i, vc_r, vc_l, vc_n]) nn0 rfl (pc2 := 51) rfl ?_
    refine e_istore dX12_most_51 (by decide) rfl (ls' := [(0, .ref 101), (1, .int v1), (2, .int v2), (3, .int v3), (4, .int v4), (5, .int y8)]) [1, 2, 3, 4, 5, 0] rfl (pc2 := 53) rfl ?_
    refine e_iload dX12_most_53 5 rfl (pc2 := 55) rfl ?_
    refine e_iload_n dX12_most_55 3 rfl rfl (pc2 := 56) rfl ?_
    refine e_icmp_gt (tgt := 62) dX12_most_56 (by decide) (pc2 := 59) rfl (fun c10 => ?_) (fun c10 => ?_)
    · have hf := if_t c10 hf
      refine e_iload dX12_most_62 5 rfl (pc2 := 64) rfl ?_
      refine e_istore_n dX12_most_64 rfl (by decide) rfl (ls' := [(0, .ref 101), (1, .int v1), (3, .int y8), (4, .int v4)]) [1, 2, 0, 4] rfl (pc2 := 65) rfl ?_
      refine e_iload dX12_most_65 3 rfl (pc2 := 67) rfl ?_
      refine e_istore_n dX12_most_67 rfl (by decide) rfl (ls' := [(0, .ref 101), (1, .int v1), (2, .int v4), (3, .int y8), (4, .int v4)]) [1, 2, 0, 3, 4] rfl (pc2 := 68) rfl ?_
      obtain ⟨x11, ex11, hf⟩ := ltb_s hf
      refine e_iinc dX12_most_68 4 rfl (c9 := 1) (by decide) ex11.symm (by decide) (ls' := [(0, .ref 101), (1, .int v1), (2, .int v4), (3, .int y8), (4, .int x11)]) [1, 2, 3, 4, 0] rfl (pc2 := 71) rfl ?_
      refine e_goto (tgt := 37) dX12_most_71 (by decide) ?_
      exact hk37 v4 y8 x11 s9 hf
    · have hf := if_f c10 hf
      refine e_goto (tgt := 68) dX12_most_59 (by decide) ?_
      obtain ⟨x12, ex12, hf⟩ := ltb_s hf
      refine e_iinc dX12_most_68 4 rfl (c9 := 1) (by decide) ex12.symm (by decide) (ls' := [(0, .ref 101), (1, .int v1), (2, .int v2), (3, .int v3), (4, .int x12)]) [1, 2, 3, 4, 0] rfl (pc2 := 71) rfl ?_
      refine e_goto (tgt := 37) dX12_most_71 (by decide) ?_
      exact hk37 v2 v3 x12 s9 hf
def f_X12_most_l37 (v1 : Int32) : Nat → Int32 → Int32 → Int32 → HS → Option (Int32 × HS)
  | 0, _, _, _, _ => none
  | n + 1, v2, v3, v4, s => f_X12_most_l37b v1 v2 v3 v4 (f_X12_most_l37 v1 n)  s
set_option maxRecDepth 20000 in
set_option maxHeartbeats 2000000 in
theorem t_X12_most_l37 (v1 : Int32) {x : Int32} {t : HS}  : ∀ (n : Nat) (v2 : Int32) (v3 : Int32) (v4 : Int32) (s : HS), f_X12_most_l37 v1 n v2 v3 v4 s = some (x, t) → Ev DDX12_most miX12_most NF (some (.int x)) NF (hp t) 37 NF [(0, .ref 101), (1, .int v1), (2, .int v2), (3, .int v3), (4, .int v4)] [] (hp s) := by
  intro n
  induction n with
  | zero =>
    intro v2 v3 v4 s hf
    have hf : none = some (x, t) := hf
    cases hf
  | succ n ih =>
    intro v2 v3 v4 s hf
    exact t_X12_most_l37b v1 v2 v3 v4  s _ ih  hf
def f_X12_most (v1 : Int32) (s : HS) : Option (Int32 × HS) :=
  ltb (sI s 101 0 0) fun s1 => (if (f_X12_isThing v1 s1) = 0 then some ((-1), s1) else gd (inb v1 10) ((if (s1.1 108 v1.toNatClampNeg) = 2 then some ((-1), s1) else bnd2 (f_X12_aheadOf v1 0 s1) fun y5 s6 => f_X12_most_l37 v1 FU 0 y5 1 s6)))
set_option maxRecDepth 20000 in
set_option maxHeartbeats 2000000 in
theorem t_X12_most (v1 : Int32) (s : HS) {x : Int32} {t : HS} (hf : f_X12_most  v1 s = some (x, t)) : Mt DDX12_most miX12_most [.ref 101, .int v1] NF (hp s) (some (.int x)) NF (hp t) := by
  refine Mt.of (by decide +kernel) (Nat.le_refl _) (Nat.le_of_ble_eq_true rfl) ?_
  show Ev DDX12_most miX12_most NF (some (.int x)) NF (hp t) 0 NF [(0, .ref 101), (1, .int v1)] [] (hp s)
  unfold f_X12_most at hf
  refine e_aload_n dX12_most_0 0 rfl rfl (pc2 := 1) rfl ?_
  refine e_iconst (x := 0) dX12_most_1 (by decide) (pc2 := 2) rfl ?_
  obtain ⟨s1, es1, hf⟩ := ltb_s hf
  refine e_putI fl_X12_194 dX12_most_2 so_101 fn_11_0 (h2 := hp s1) (by rw [es1]; rfl) (pc2 := 5) rfl ?_
  refine e_aload_n dX12_most_5 0 rfl rfl (pc2 := 6) rfl ?_
  refine e_iload_n dX12_most_6 1 rfl rfl (pc2 := 7) rfl ?_
  refine e_callVs (t_X12_isThing v1 s1 rfl) dX12_most_7 cv_X12_507 rfl so_101 rc_11 (by decide) (by first | exact Nat.le_of_ble_eq_true rfl | simp [rva_cat, vc_i, vc_r, vc_l, vc_n]) nn0 rfl (pc2 := 10) rfl ?_
  refine e_if_eq (tgt := 23) dX12_most_10 (by decide) (pc2 := 13) rfl (fun c2 => ?_) (fun c2 => ?_)
  · have hf := if_t c2 hf
    refine e_iconst (x := (-1)) dX12_most_23 (by decide) (pc2 := 24) rfl ?_
    cases hf
    exact e_iret rfl dX12_most_24
  · have hf := if_f c2 hf
    refine e_aload_n dX12_most_13 0 rfl rfl (pc2 := 14) rfl ?_
    refine e_getR (r := 108) fl_X12_29 dX12_most_14 so_101 (rs_101_15 s1.2.2) (by decide) (pc2 := 17) rfl ?_
    refine e_iload_n dX12_most_17 1 rfl rfl (pc2 := 18) rfl ?_
    obtain ⟨g3, hf⟩ := gd_some hf
    refine e_iald dX12_most_18 sa_108 (inb_v g3) (pc2 := 19) rfl ?_
    refine e_iconst (x := 2) dX12_most_19 (by decide) (pc2 := 20) rfl ?_
    refine e_icmp_ne (tgt := 25) dX12_most_20 (by decide) (pc2 := 23) rfl (fun c4 => ?_) (fun c4 => ?_)
    · have hf := if_f c4 hf
      refine e_iconst (x := 0) dX12_most_25 (by decide) (pc2 := 26) rfl ?_
      refine e_istore_n dX12_most_26 rfl (by decide) rfl (ls' := [(0, .ref 101), (1, .int v1), (2, .int 0)]) [1, 2, 0] rfl (pc2 := 27) rfl ?_
      refine e_aload_n dX12_most_27 0 rfl rfl (pc2 := 28) rfl ?_
      refine e_iload_n dX12_most_28 1 rfl rfl (pc2 := 29) rfl ?_
      refine e_iconst (x := 0) dX12_most_29 (by decide) (pc2 := 30) rfl ?_
      obtain ⟨y5, s6, hy5, hf⟩ := bnd2_s hf
      refine e_callVs (t_X12_aheadOf v1 0 s1 hy5) dX12_most_30 cv_X12_572 rfl so_101 rc_11 (by decide) (by first | exact Nat.le_of_ble_eq_true rfl | simp [rva_cat, vc_i, vc_r, vc_l, vc_n]) nn0 rfl (pc2 := 33) rfl ?_
      refine e_istore_n dX12_most_33 rfl (by decide) rfl (ls' := [(0, .ref 101), (1, .int v1), (2, .int 0), (3, .int y5)]) [1, 2, 3, 0] rfl (pc2 := 34) rfl ?_
      refine e_iconst (x := 1) dX12_most_34 (by decide) (pc2 := 35) rfl ?_
      refine e_istore dX12_most_35 (by decide) rfl (ls' := [(0, .ref 101), (1, .int v1), (2, .int 0), (3, .int y5), (4, .int 1)]) [1, 2, 3, 4, 0] rfl (pc2 := 37) rfl ?_
      refine t_X12_most_l37 v1 FU 0 y5 1 s6 hf
    · have hf := if_t c4 hf
      refine e_iconst (x := (-1)) dX12_most_23 (by decide) (pc2 := 24) rfl ?_
      cases hf
      exact e_iret rfl dX12_most_24
abbrev DDX12_sell : Nat := 2
def f_X12_sell (v1 : Int32) (v2 : Int32) (s : HS) : Option (Int32 × HS) :=
  ltb (sI s 101 0 0) fun s1 => (if (f_X12_within v1 0 9 s1) = 0 then some (0, s1) else (if (f_X12_within v2 0 99 s1) = 0 then some (0, s1) else (if (s1.1 139 0) = 10 then some (0, s1) else gd (inb (s1.1 139 0) 50) (ltb (sI s1 140 ((s1.1 139 0).toNatClampNeg) v1) fun s7 => gd (inb (s7.1 139 0) 50) (ltb (sI s7 141 ((s7.1 139 0).toNatClampNeg) v2) fun s10 => ltb (sI s10 139 (0) ((s10.1 139 0) + 1)) fun s13 => some (1, s13))))))
set_option maxRecDepth 20000 in
set_option maxHeartbeats 2000000 in
theorem t_X12_sell (v1 : Int32) (v2 : Int32) (s : HS) {x : Int32} {t : HS} (hf : f_X12_sell  v1 v2 s = some (x, t)) : Mt DDX12_sell miX12_sell [.ref 101, .int v1, .int v2] NF (hp s) (some (.int x)) NF (hp t) := by
  refine Mt.of (by decide +kernel) (Nat.le_refl _) (Nat.le_of_ble_eq_true rfl) ?_
  show Ev DDX12_sell miX12_sell NF (some (.int x)) NF (hp t) 0 NF [(0, .ref 101), (1, .int v1), (2, .int v2)] [] (hp s)
  unfold f_X12_sell at hf
  refine e_aload_n dX12_sell_0 0 rfl rfl (pc2 := 1) rfl ?_
  refine e_iconst (x := 0) dX12_sell_1 (by decide) (pc2 := 2) rfl ?_
  obtain ⟨s1, es1, hf⟩ := ltb_s hf
  refine e_putI fl_X12_194 dX12_sell_2 so_101 fn_11_0 (h2 := hp s1) (by rw [es1]; rfl) (pc2 := 5) rfl ?_
  refine e_iload_n dX12_sell_5 1 rfl rfl (pc2 := 6) rfl ?_
  refine e_iconst (x := 0) dX12_sell_6 (by decide) (pc2 := 7) rfl ?_
  refine e_bipush (x := 9) dX12_sell_7 (by decide) (pc2 := 9) rfl ?_
  refine e_callSs (t_X12_within v1 0 9 s1 rfl) dX12_sell_9 cs_X12_343 rfl (by decide) (by first | exact Nat.le_of_ble_eq_true rfl | simp [rva_cat, vc_i, vc_r, vc_l, vc_n]) nn0 rfl (pc2 := 12) rfl ?_
  refine e_if_eq (tgt := 36) dX12_sell_12 (by decide) (pc2 := 15) rfl (fun c2 => ?_) (fun c2 => ?_)
  · have hf := if_t c2 hf
    refine e_iconst (x := 0) dX12_sell_36 (by decide) (pc2 := 37) rfl ?_
    cases hf
    exact e_zret (by decide) rfl dX12_sell_37
  · have hf := if_f c2 hf
    refine e_iload_n dX12_sell_15 2 rfl rfl (pc2 := 16) rfl ?_
    refine e_iconst (x := 0) dX12_sell_16 (by decide) (pc2 := 17) rfl ?_
    refine e_bipush (x := 99) dX12_sell_17 (by decide) (pc2 := 19) rfl ?_
    refine e_callSs (t_X12_within v2 0 99 s1 rfl) dX12_sell_19 cs_X12_343 rfl (by decide) (by first | exact Nat.le_of_ble_eq_true rfl | simp [rva_cat, vc_i, vc_r, vc_l, vc_n]) nn0 rfl (pc2 := 22) rfl ?_
    refine e_if_eq (tgt := 36) dX12_sell_22 (by decide) (pc2 := 25) rfl (fun c3 => ?_) (fun c3 => ?_)
    · have hf := if_t c3 hf
      refine e_iconst (x := 0) dX12_sell_36 (by decide) (pc2 := 37) rfl ?_
      cases hf
      exact e_zret (by decide) rfl dX12_sell_37
    · have hf := if_f c3 hf
      refine e_aload_n dX12_sell_25 0 rfl rfl (pc2 := 26) rfl ?_
      refine e_getR (r := 139) fl_X12_123 dX12_sell_26 so_101 (rs_101_49 s1.2.2) (by decide) (pc2 := 29) rfl ?_
      refine e_iconst (x := 0) dX12_sell_29 (by decide) (pc2 := 30) rfl ?_
      refine e_iald dX12_sell_30 sa_139 (inb_v (by decide)) (pc2 := 31) rfl ?_
      refine e_bipush (x := 10) dX12_sell_31 (by decide) (pc2 := 33) rfl ?_
      refine e_icmp_ne (tgt := 38) dX12_sell_33 (by decide) (pc2 := 36) rfl (fun c5 => ?_) (fun c5 => ?_)
      · have hf := if_f c5 hf
        refine e_aload_n dX12_sell_38 0 rfl rfl (pc2 := 39) rfl ?_
        refine e_getR (r := 140) fl_X12_126 dX12_sell_39 so_101 (rs_101_50 s1.2.2) (by decide) (pc2 := 42) rfl ?_
        refine e_aload_n dX12_sell_42 0 rfl rfl (pc2 := 43) rfl ?_
        refine e_getR (r := 139) fl_X12_123 dX12_sell_43 so_101 (rs_101_49 s1.2.2) (by decide) (pc2 := 46) rfl ?_
        refine e_iconst (x := 0) dX12_sell_46 (by decide) (pc2 := 47) rfl ?_
        refine e_iald dX12_sell_47 sa_139 (inb_v (by decide)) (pc2 := 48) rfl ?_
        refine e_iload_n dX12_sell_48 1 rfl rfl (pc2 := 49) rfl ?_
        obtain ⟨g8, hf⟩ := gd_some hf
        obtain ⟨s7, es7, hf⟩ := ltb_s hf
        refine e_iast dX12_sell_49 sa_140 (inb_v g8) (h2 := hp s7) (by rw [es7]; rfl) (pc2 := 50) rfl ?_
        refine e_aload_n dX12_sell_50 0 rfl rfl (pc2 := 51) rfl ?_
        refine e_getR (r := 141) fl_X12_129 dX12_sell_51 so_101 (rs_101_51 s7.2.2) (by decide) (pc2 := 54) rfl ?_
        refine e_aload_n dX12_sell_54 0 rfl rfl (pc2 := 55) rfl ?_
        refine e_getR (r := 139) fl_X12_123 dX12_sell_55 so_101 (rs_101_49 s7.2.2) (by decide) (pc2 := 58) rfl ?_
        refine e_iconst (x := 0) dX12_sell_58 (by decide) (pc2 := 59) rfl ?_
        refine e_iald dX12_sell_59 sa_139 (inb_v (by decide)) (pc2 := 60) rfl ?_
        refine e_iload_n dX12_sell_60 2 rfl rfl (pc2 := 61) rfl ?_
        obtain ⟨g11, hf⟩ := gd_some hf
        obtain ⟨s10, es10, hf⟩ := ltb_s hf
        refine e_iast dX12_sell_61 sa_141 (inb_v g11) (h2 := hp s10) (by rw [es10]; rfl) (pc2 := 62) rfl ?_
        refine e_aload_n dX12_sell_62 0 rfl rfl (pc2 := 63) rfl ?_
        refine e_getR (r := 139) fl_X12_123 dX12_sell_63 so_101 (rs_101_49 s10.2.2) (by decide) (pc2 := 66) rfl ?_
        refine e_iconst (x := 0) dX12_sell_66 (by decide) (pc2 := 67) rfl ?_
        refine e_dup2 dX12_sell_67 rfl rfl (pc2 := 68) rfl ?_
        refine e_iald dX12_sell_68 sa_139 (inb_v (by decide)) (pc2 := 69) rfl ?_
        refine e_iconst (x := 1) dX12_sell_69 (by decide) (pc2 := 70) rfl ?_
        refine e_iadd dX12_sell_70 (pc2 := 71) rfl ?_
        obtain ⟨s13, es13, hf⟩ := ltb_s hf
        refine e_iast dX12_sell_71 sa_139 (inb_v (by decide)) (h2 := hp s13) (by rw [es13]; rfl) (pc2 := 72) rfl ?_
        refine e_iconst (x := 1) dX12_sell_72 (by decide) (pc2 := 73) rfl ?_
        cases hf
        exact e_zret (by decide) rfl dX12_sell_73
      · have hf := if_t c5 hf
        refine e_iconst (x := 0) dX12_sell_36 (by decide) (pc2 := 37) rfl ?_
        cases hf
        exact e_zret (by decide) rfl dX12_sell_37
abbrev DDX12_isLaw : Nat := 1
def f_X12_isLaw_l2b (v1 : Int32) (v2 : Int32) (v3 : Int32) (k2 : Int32 → Option Int32) (s : HS) : Option Int32 :=
  (if (s.1 139 0) ≤ v3 then some 1 else gd (inb v3 50) (gd (inb v3 50) ((if (v1 + (v2 * (s.1 140 v3.toNatClampNeg))) = (s.1 141 v3.toNatClampNeg) then ltb (v3 + 1) fun x6 => k2 x6 else some 0))))
set_option maxRecDepth 20000 in
set_option maxHeartbeats 2000000 in
theorem t_X12_isLaw_l2b (v1 : Int32) (v2 : Int32) (v3 : Int32) (s : HS) {x : Int32} (k2 : Int32 → Option Int32) (hk2 : ∀ (a3 : Int32), k2 a3 = some x → Ev DDX12_isLaw miX12_isLaw NF (some (.int x)) NF (hp s) 2 NF [(0, .ref 101), (1, .int v1), (2, .int v2), (3, .int a3)] [] (hp s)) (hf : f_X12_isLaw_l2b v1 v2 v3 k2 s = some x) : Ev DDX12_isLaw miX12_isLaw NF (some (.int x)) NF (hp s) 2 NF [(0, .ref 101), (1, .int v1), (2, .int v2), (3, .int v3)] [] (hp s) := by
  refine e_iload_n dX12_isLaw_2 3 rfl rfl (pc2 := 3) rfl ?_
  refine e_aload_n dX12_isLaw_3 0 rfl rfl (pc2 := 4) rfl ?_
  refine e_getR (r := 139) fl_X12_123 dX12_isLaw_4 so_101 (rs_101_49 s.2.2) (by decide) (pc2 := 7) rfl ?_
  refine e_iconst (x := 0) dX12_isLaw_7 (by decide) (pc2 := 8) rfl ?_
  refine e_iald dX12_isLaw_8 sa_139 (inb_v (by decide)) (pc2 := 9) rfl ?_
  refine e_icmp_ge (tgt := 39) dX12_isLaw_9 (by decide) (pc2 := 12) rfl (fun c2 => ?_) (fun c2 => ?_)
  · have hf := if_t c2 hf
    refine e_iconst (x := 1) dX12_isLaw_39 (by decide) (pc2 := 40) rfl ?_
    cases hf
    exact e_zret (by decide) rfl dX12_isLaw_40
  · have hf := if_f c2 hf
    refine e_iload_n dX12_isLaw_12 1 rfl rfl (pc2 := 13) rfl ?_
    refine e_iload_n dX12_isLaw_13 2 rfl rfl (pc2 := 14) rfl ?_
    refine e_aload_n dX12_isLaw_14 0 rfl rfl (pc2 := 15) rfl ?_
    refine e_getR (r := 140) fl_X12_126 dX12_isLaw_15 so_101 (rs_101_50 s.2.2) (by decide) (pc2 := 18) rfl ?_
    refine e_iload_n dX12_isLaw_18 3 rfl rfl (pc2 := 19) rfl ?_
    obtain ⟨g3, hf⟩ := gd_some hf
    refine e_iald dX12_isLaw_19 sa_140 (inb_v g3) (pc2 := 20) rfl ?_
    refine e_imul dX12_isLaw_20 (pc2 := 21) rfl ?_
    refine e_iadd dX12_isLaw_21 (pc2 := 22) rfl ?_
    refine e_aload_n dX12_isLaw_22 0 rfl rfl (pc2 := 23) rfl ?_
    refine e_getR (r := 141) fl_X12_129 dX12_isLaw_23 so_101 (rs_101_51 s.2.2) (by decide) (pc2 := 26) rfl ?_
    refine e_iload_n dX12_isLaw_26 3 rfl rfl (pc2 := 27) rfl ?_
    obtain ⟨g4, hf⟩ := gd_some hf
    refine e_iald dX12_isLaw_27 sa_141 (inb_v g4) (pc2 := 28) rfl ?_
    refine e_icmp_eq (tgt := 33) dX12_isLaw_28 (by decide) (pc2 := 31) rfl (fun c5 => ?_) (fun c5 => ?_)
    · have hf := if_t c5 hf
      obtain ⟨x6, ex6, hf⟩ := ltb_s hf
      refine e_iinc dX12_isLaw_33 3 rfl (c9 := 1) (by decide) ex6.symm (by decide) (ls' := [(0, .ref 101), (1, .int v1), (2, .int v2), (3, .int x6)]) [1, 2, 3, 0] rfl (pc2 := 36) rfl ?_
      refine e_goto (tgt := 2) dX12_isLaw_36 (by decide) ?_
      exact hk2 x6 hf
    · have hf := if_f c5 hf
      refine e_iconst (x := 0) dX12_isLaw_31 (by decide) (pc2 := 32) rfl ?_
      cases hf
      exact e_zret (by decide) rfl dX12_isLaw_32
def f_X12_isLaw_l2 (v1 : Int32) (v2 : Int32) (s : HS) : Nat → Int32 → Option Int32
  | 0, _ => none
  | n + 1, v3 => f_X12_isLaw_l2b v1 v2 v3 (f_X12_isLaw_l2 v1 v2 s n)  s
set_option maxRecDepth 20000 in
set_option maxHeartbeats 2000000 in
theorem t_X12_isLaw_l2 (v1 : Int32) (v2 : Int32) (s : HS) {x : Int32}  : ∀ (n : Nat) (v3 : Int32), f_X12_isLaw_l2 v1 v2 s n v3 = some x → Ev DDX12_isLaw miX12_isLaw NF (some (.int x)) NF (hp s) 2 NF [(0, .ref 101), (1, .int v1), (2, .int v2), (3, .int v3)] [] (hp s) := by
  intro n
  induction n with
  | zero =>
    intro v3 hf
    have hf : none = some x := hf
    cases hf
  | succ n ih =>
    intro v3 hf
    exact t_X12_isLaw_l2b v1 v2 v3  s _ ih  hf
def f_X12_isLaw (v1 : Int32) (v2 : Int32) (s : HS) : Option Int32 :=
  f_X12_isLaw_l2 v1 v2 s FU 0
set_option maxRecDepth 20000 in
set_option maxHeartbeats 2000000 in
theorem t_X12_isLaw (v1 : Int32) (v2 : Int32) (s : HS) {x : Int32} (hf : f_X12_isLaw  v1 v2 s = some x) : Mt DDX12_isLaw miX12_isLaw [.ref 101, .int v1, .int v2] NF (hp s) (some (.int x)) NF (hp s) := by
  refine Mt.of (by decide +kernel) (Nat.le_refl _) (Nat.le_of_ble_eq_true rfl) ?_
  show Ev DDX12_isLaw miX12_isLaw NF (some (.int x)) NF (hp s) 0 NF [(0, .ref 101), (1, .int v1), (2, .int v2)] [] (hp s)
  unfold f_X12_isLaw at hf
  refine e_iconst (x := 0) dX12_isLaw_0 (by decide) (pc2 := 1) rfl ?_
  refine e_istore_n dX12_isLaw_1 rfl (by decide) rfl (ls' := [(0, .ref 101), (1, .int v1), (2, .int v2), (3, .int 0)]) [1, 2, 3, 0] rfl (pc2 := 2) rfl ?_
  refine t_X12_isLaw_l2 v1 v2 s FU 0 hf
