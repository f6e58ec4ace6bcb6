abbrev DDX2_value : Nat := 1
def f_X2_value_j358 (v0 : Nat) (v1 : Int32) (v2 : Int32) (v3 : Int32) (v4 : Int32) (v5 : Int32) (v6 : Int32) (k6 : Int32 → Int32 → HS → Option (Int32 × HS)) (s : HS) : Option (Int32 × HS) :=
  ltb (v6 + 1) fun x7 => k6 v5 x7 s
set_option maxRecDepth 20000 in
set_option maxHeartbeats 2000000 in
theorem t_X2_value_j358 (v0 : Nat) (v1 : Int32) (v2 : Int32) (v3 : Int32) (v4 : Int32) (v5 : Int32) (v6 : Int32) (hv0 : okX2 v0 = true) (s : HS) {x : Int32} {t : HS} (k6 : Int32 → Int32 → HS → Option (Int32 × HS)) (hk6 : ∀ (a5 : Int32) (a6 : Int32) (s : HS), k6 a5 a6 s = some (x, t) → Ev DDX2_value miX2_value NF (some (.int x)) NF (hp t) 6 NF [(0, .ref v0), (1, .int v1), (2, .int v2), (3, .int v3), (4, .int v4), (5, .int a5), (6, .int a6)] [] (hp s)) (hf : f_X2_value_j358 v0 v1 v2 v3 v4 v5 v6 k6 s = some (x, t)) : Ev DDX2_value miX2_value NF (some (.int x)) NF (hp t) 358 NF [(0, .ref v0), (1, .int v1), (2, .int v2), (3, .int v3), (4, .int v4), (5, .int v5), (6, .int v6)] [] (hp s) := by
  obtain ⟨x7, ex7, hf⟩ := ltb_s hf
  refine e_iinc dX2_value_358 6 rfl (c9 := 1) (by decide) ex7.symm (by decide) (ls' := [(0, .ref v0), (1, .int v1), (2, .int v2), (3, .int v3), (4, .int v4), (5, .int v5), (6, .int x7)]) [1, 2, 3, 4, 5, 6, 0] rfl (pc2 := 361) rfl ?_
  refine e_goto (tgt := 6) dX2_value_361 (by decide) ?_
  exact hk6 v5 x7 s hf
def f_X2_value_l6b (v0 : Nat) (v1 : Int32) (v2 : Int32) (v3 : Int32) (v4 : Int32) (v5 : Int32) (v6 : Int32) (k6 : Int32 → Int32 → HS → Option (Int32 × HS)) (k364 : Int32 → HS → Option (Int32 × HS)) (s : HS) : Option (Int32 × HS) :=
  (if (s.1 v0 1) ≤ v6 then k364 v5 s else gd (inb v6 1000) (ltb (s.1 (Rf v0 0) v6.toNatClampNeg) fun x3 => (if x3 < (-4) then (if x3 = (-5) then (if v5 ≤ 0 then f_X2_value_j358 v0 v1 v2 v3 v4 v5 v6 k6 s else gd (inb (v5 - 1) 32) ((if (s.1 (Rf v0 2) (v5 - 1).toNatClampNeg) = 0 then gd (inb (v5 - 1) 32) (ltb (sI s (Rf v0 2) ((v5 - 1).toNatClampNeg) 1) fun s56 => f_X2_value_j358 v0 v1 v2 v3 v4 v5 v6 k6 s56) else gd (inb (v5 - 1) 32) (ltb (sI s (Rf v0 2) ((v5 - 1).toNatClampNeg) 0) fun s54 => f_X2_value_j358 v0 v1 v2 v3 v4 v5 v6 k6 s54)))) else (if v5 ≤ 1 then f_X2_value_j358 v0 v1 v2 v3 v4 v5 v6 k6 s else ltb (v5 + (-1)) fun x8 => gd (inb (x8 - 1) 32) (ltb (s.1 (Rf v0 2) (x8 - 1).toNatClampNeg) fun x10 => gd (inb x8 32) (ltb (s.1 (Rf v0 2) x8.toNatClampNeg) fun x12 => (if x3 = (-11) then gd (inb (x8 - 1) 32) (ltb (sI s (Rf v0 2) ((x8 - 1).toNatClampNeg) (x10 - x12)) fun s14 => f_X2_value_j358 v0 v1 v2 v3 v4 x8 v6 k6 s14) else if x3 = (-10) then gd (inb (x8 - 1) 32) (ltb (sI s (Rf v0 2) ((x8 - 1).toNatClampNeg) (x10 + x12)) fun s17 => f_X2_value_j358 v0 v1 v2 v3 v4 x8 v6 k6 s17) else if x3 = (-9) then (if x10 = x12 then gd (inb (x8 - 1) 32) (ltb (sI s (Rf v0 2) ((x8 - 1).toNatClampNeg) 1) fun s23 => f_X2_value_j358 v0 v1 v2 v3 v4 x8 v6 k6 s23) else gd (inb (x8 - 1) 32) (ltb (sI s (Rf v0 2) ((x8 - 1).toNatClampNeg) 0) fun s21 => f_X2_value_j358 v0 v1 v2 v3 v4 x8 v6 k6 s21)) else if x3 = (-8) then (if x12 ≤ x10 then gd (inb (x8 - 1) 32) (ltb (sI s (Rf v0 2) ((x8 - 1).toNatClampNeg) 0) fun s27 => f_X2_value_j358 v0 v1 v2 v3 v4 x8 v6 k6 s27) else gd (inb (x8 - 1) 32) (ltb (sI s (Rf v0 2) ((x8 - 1).toNatClampNeg) 1) fun s29 => f_X2_value_j358 v0 v1 v2 v3 v4 x8 v6 k6 s29)) else if x3 = (-7) then (if x10 = 0 then (if x12 = 0 then gd (inb (x8 - 1) 32) (ltb (sI s (Rf v0 2) ((x8 - 1).toNatClampNeg) 0) fun s36 => f_X2_value_j358 v0 v1 v2 v3 v4 x8 v6 k6 s36) else gd (inb (x8 - 1) 32) (ltb (sI s (Rf v0 2) ((x8 - 1).toNatClampNeg) 1) fun s38 => f_X2_value_j358 v0 v1 v2 v3 v4 x8 v6 k6 s38)) else gd (inb (x8 - 1) 32) (ltb (sI s (Rf v0 2) ((x8 - 1).toNatClampNeg) 1) fun s33 => f_X2_value_j358 v0 v1 v2 v3 v4 x8 v6 k6 s33)) else if x3 = (-6) then (if x10 = 0 then gd (inb (x8 - 1) 32) (ltb (sI s (Rf v0 2) ((x8 - 1).toNatClampNeg) 0) fun s42 => f_X2_value_j358 v0 v1 v2 v3 v4 x8 v6 k6 s42) else (if x12 = 0 then gd (inb (x8 - 1) 32) (ltb (sI s (Rf v0 2) ((x8 - 1).toNatClampNeg) 0) fun s45 => f_X2_value_j358 v0 v1 v2 v3 v4 x8 v6 k6 s45) else gd (inb (x8 - 1) 32) (ltb (sI s (Rf v0 2) ((x8 - 1).toNatClampNeg) 1) fun s47 => f_X2_value_j358 v0 v1 v2 v3 v4 x8 v6 k6 s47))) else gd (inb (x8 - 1) 32) (ltb (sI s (Rf v0 2) ((x8 - 1).toNatClampNeg) (x10 * x12)) fun s49 => f_X2_value_j358 v0 v1 v2 v3 v4 x8 v6 k6 s49)))))) else (if 32 ≤ v5 then f_X2_value_j358 v0 v1 v2 v3 v4 v5 v6 k6 s else (if x3 < 0 then (if x3 = (-1) then gd (inb v5 32) (ltb (sI s (Rf v0 2) (v5.toNatClampNeg) v1) fun s72 => ltb (v5 + 1) fun x74 => f_X2_value_j358 v0 v1 v2 v3 v4 x74 v6 k6 s72) else (if x3 = (-2) then gd (inb v5 32) (ltb (sI s (Rf v0 2) (v5.toNatClampNeg) v2) fun s69 => ltb (v5 + 1) fun x71 => f_X2_value_j358 v0 v1 v2 v3 v4 x71 v6 k6 s69) else (if x3 = (-3) then gd (inb v5 32) (ltb (sI s (Rf v0 2) (v5.toNatClampNeg) v3) fun s66 => ltb (v5 + 1) fun x68 => f_X2_value_j358 v0 v1 v2 v3 v4 x68 v6 k6 s66) else gd (inb v5 32) (ltb (sI s (Rf v0 2) (v5.toNatClampNeg) v4) fun s63 => ltb (v5 + 1) fun x65 => f_X2_value_j358 v0 v1 v2 v3 v4 x65 v6 k6 s63)))) else gd (inb v5 32) (ltb (sI s (Rf v0 2) (v5.toNatClampNeg) x3) fun s75 => ltb (v5 + 1) fun x77 => f_X2_value_j358 v0 v1 v2 v3 v4 x77 v6 k6 s75))))))
set_option maxRecDepth 20000 in
set_option maxHeartbeats 2000000 in
theorem t_X2_value_l6b (v0 : Nat) (v1 : Int32) (v2 : Int32) (v3 : Int32) (v4 : Int32) (v5 : Int32) (v6 : Int32) (hv0 : okX2 v0 = true) (s : HS) {x : Int32} {t : HS} (k6 : Int32 → Int32 → HS → Option (Int32 × HS)) (hk6 : ∀ (a5 : Int32) (a6 : Int32) (s : HS), k6 a5 a6 s = some (x, t) → Ev DDX2_value miX2_value NF (some (.int x)) NF (hp t) 6 NF [(0, .ref v0), (1, .int v1), (2, .int v2), (3, .int v3), (4, .int v4), (5, .int a5), (6, .int a6)] [] (hp s)) (k364 : Int32 → HS → Option (Int32 × HS)) (hk364 : ∀ (a5 : Int32) (s : HS), k364 a5 s = some (x, t) → Ev DDX2_value miX2_value NF (some (.int x)) NF (hp t) 364 NF [(0, .ref v0), (5, .int a5)] [] (hp s)) (hf : f_X2_value_l6b v0 v1 v2 v3 v4 v5 v6 k6 k364 s = some (x, t)) : Ev DDX2_value miX2_value NF (some (.int x)) NF (hp t) 6 NF [(0, .ref v0), (1, .int v1), (2, .int v2), (3, .int v3), (4, .int v4), (5, .int v5), (6, .int v6)] [] (hp s) := by
  refine e_iload dX2_value_6 6 rfl (pc2 := 8) rfl ?_
  refine e_aload_n dX2_value_8 0 rfl rfl (pc2 := 9) rfl ?_
  refine e_getI fl_X2_18 dX2_value_9 (okX2_o hv0) (by decide) (pc2 := 12) rfl ?_
  refine e_icmp_ge (tgt := 364) dX2_value_12 (by decide) (pc2 := 15) rfl (fun c1 => ?_) (fun c1 => ?_)
  · have hf := if_t c1 hf
    refine ev_sub [0, 5] rfl ?_
    exact hk364 v5 s hf
  · have hf := if_f c1 hf
    refine e_aload_n dX2_value_15 0 rfl rfl (pc2 := 16) rfl ?_
    refine e_getR (r := Rf v0 0) fl_X2_9 dX2_value_16 (okX2_o hv0) (okX2_R hv0) (isA_ne (okX2_code hv0)) (pc2 := 19) rfl ?_
    refine e_iload dX2_value_19 6 rfl (pc2 := 21) rfl ?_
    obtain ⟨g2, hf⟩ := gd_some hf
    refine e_iald dX2_value_21 (okX2_code hv0) (inb_v g2) (pc2 := 22) rfl ?_
    obtain ⟨x3, ex3, hf⟩ := ltb_s hf
    refine e_istore dX2_value_22 (by decide) ex3.symm (ls' := [(0, .ref v0), (1, .int v1), (2, .int v2), (3, .int v3), (4, .int v4), (5, .int v5), (6, .int v6), (7, .int x3)]) [1, 2, 3, 4, 5, 6, 7, 0] rfl (pc2 := 24) rfl ?_
    refine e_iload dX2_value_24 7 rfl (pc2 := 26) rfl ?_
    refine e_bipush (x := (-4)) dX2_value_26 (by decide) (pc2 := 28) rfl ?_
    refine e_icmp_lt (tgt := 98) dX2_value_28 (by decide) (pc2 := 31) rfl (fun c4 => ?_) (fun c4 => ?_)
    · have hf := if_t c4 hf
      refine e_iload dX2_value_98 7 rfl (pc2 := 100) rfl ?_
      refine e_bipush (x := (-5)) dX2_value_100 (by decide) (pc2 := 102) rfl ?_
      refine e_icmp_ne (tgt := 139) dX2_value_102 (by decide) (pc2 := 105) rfl (fun c5 => ?_) (fun c5 => ?_)
      · have hf := if_f c5 hf
        refine e_iload dX2_value_139 5 rfl (pc2 := 141) rfl ?_
        refine e_iconst (x := 1) dX2_value_141 (by decide) (pc2 := 142) rfl ?_
        refine e_icmp_le (tgt := 358) dX2_value_142 (by decide) (pc2 := 145) rfl (fun c6 => ?_) (fun c6 => ?_)
        · have hf := if_t c6 hf
          refine ev_sub [0, 1, 2, 3, 4, 5, 6] rfl ?_
          exact t_X2_value_j358 v0 v1 v2 v3 v4 v5 v6 hv0 s _ hk6 hf
        · have hf := if_f c6 hf
          obtain ⟨x8, ex8, hf⟩ := ltb_s hf
          refine e_iinc dX2_value_145 5 rfl (c9 := (-1)) (by decide) ex8.symm (by decide) (ls' := [(0, .ref v0), (1, .int v1), (2, .int v2), (3, .int v3), (4, .int v4), (5, .int x8), (6, .int v6), (7, .int x3)]) [1, 2, 3, 4, 5, 0, 6, 7] rfl (pc2 := 148) rfl ?_
          refine e_aload_n dX2_value_148 0 rfl rfl (pc2 := 149) rfl ?_
          refine e_getR (r := Rf v0 2) fl_X2_15 dX2_value_149 (okX2_o hv0) (okX2_R hv0) (isA_ne (okX2_pile hv0)) (pc2 := 152) rfl ?_
          refine e_iload dX2_value_152 5 rfl (pc2 := 154) rfl ?_
          refine e_iconst (x := 1) dX2_value_154 (by decide) (pc2 := 155) rfl ?_
          refine e_isub dX2_value_155 (pc2 := 156) rfl ?_
          obtain ⟨g9, hf⟩ := gd_some hf
          refine e_iald dX2_value_156 (okX2_pile hv0) (inb_v g9) (pc2 := 157) rfl ?_
          obtain ⟨x10, ex10, hf⟩ := ltb_s hf
          refine e_istore dX2_value_157 (by decide) ex10.symm (ls' := [(0, .ref v0), (1, .int v1), (2, .int v2), (3, .int v3), (4, .int v4), (5, .int x8), (6, .int v6), (7, .int x3), (8, .int x10)]) [1, 2, 3, 4, 5, 6, 7, 8, 0] rfl (pc2 := 159) rfl ?_
          refine e_aload_n dX2_value_159 0 rfl rfl (pc2 := 160) rfl ?_
          refine e_getR (r := Rf v0 2) fl_X2_15 dX2_value_160 (okX2_o hv0) (okX2_R hv0) (isA_ne (okX2_pile hv0)) (pc2 := 163) rfl ?_
          refine e_iload dX2_value_163 5 rfl (pc2 := 165) rfl ?_
          obtain ⟨g11, hf⟩ := gd_some hf
          refine e_iald dX2_value_165 (okX2_pile hv0) (inb_v g11) (pc2 := 166) rfl ?_
          obtain ⟨x12, ex12, hf⟩ := ltb_s hf
          refine e_istore dX2_value_166 (by decide) ex12.symm (ls' := [(0, .ref v0), (1, .int v1), (2, .int v2), (3, .int v3), (4, .int v4), (5, .int x8), (6, .int v6), (7, .int x3), (8, .int x10), (9, .int x12)]) [1, 2, 3, 4, 5, 6, 7, 8, 9, 0] rfl (pc2 := 168) rfl ?_
          refine e_iload dX2_value_168 7 rfl (pc2 := 170) rfl ?_
          by_cases c13 : x3 = (-11)
          · have hf := if_t c13 hf
            rw [c13]
            refine e_tableIn (tgt := 327) dX2_value_170 (by decide) (by decide) rfl (by decide) ?_
            refine e_aload_n dX2_value_327 0 rfl rfl (pc2 := 328) rfl ?_
            refine e_getR (r := Rf v0 2) fl_X2_15 dX2_value_328 (okX2_o hv0) (okX2_R hv0) (isA_ne (okX2_pile hv0)) (pc2 := 331) rfl ?_
            refine e_iload dX2_value_331 5 rfl (pc2 := 333) rfl ?_
            refine e_iconst (x := 1) dX2_value_333 (by decide) (pc2 := 334) rfl ?_
            refine e_isub dX2_value_334 (pc2 := 335) rfl ?_
            refine e_iload dX2_value_335 8 rfl (pc2 := 337) rfl ?_
            refine e_iload dX2_value_337 9 rfl (pc2 := 339) rfl ?_
            refine e_isub dX2_value_339 (pc2 := 340) rfl ?_
            obtain ⟨g15, hf⟩ := gd_some hf
            obtain ⟨s14, es14, hf⟩ := ltb_s hf
            refine e_iast dX2_value_340 (okX2_pile hv0) (inb_v g15) (h2 := hp s14) (by rw [es14]; rfl) (pc2 := 341) rfl ?_
            refine e_goto (tgt := 358) dX2_value_341 (by decide) ?_
            refine ev_sub [0, 1, 2, 3, 4, 5, 6] rfl ?_
            exact t_X2_value_j358 v0 v1 v2 v3 v4 x8 v6 hv0 s14 _ hk6 hf
          have hf := if_f c13 hf
          by_cases c16 : x3 = (-10)
          · have hf := if_t c16 hf
            rw [c16]
            refine e_tableIn (tgt := 310) dX2_value_170 (by decide) (by decide) rfl (by decide) ?_
            refine e_aload_n dX2_value_310 0 rfl rfl (pc2 := 311) rfl ?_
            refine e_getR (r := Rf v0 2) fl_X2_15 dX2_value_311 (okX2_o hv0) (okX2_R hv0) (isA_ne (okX2_pile hv0)) (pc2 := 314) rfl ?_
            refine e_iload dX2_value_314 5 rfl (pc2 := 316) rfl ?_
            refine e_iconst (x := 1) dX2_value_316 (by decide) (pc2 := 317) rfl ?_
            refine e_isub dX2_value_317 (pc2 := 318) rfl ?_
            refine e_iload dX2_value_318 8 rfl (pc2 := 320) rfl ?_
            refine e_iload dX2_value_320 9 rfl (pc2 := 322) rfl ?_
            refine e_iadd dX2_value_322 (pc2 := 323) rfl ?_
            obtain ⟨g18, hf⟩ := gd_some hf
            obtain ⟨s17, es17, hf⟩ := ltb_s hf
            refine e_iast dX2_value_323 (okX2_pile hv0) (inb_v g18) (h2 := hp s17) (by rw [es17]; rfl) (pc2 := 324) rfl ?_
            refine e_goto (tgt := 358) dX2_value_324 (by decide) ?_
            refine ev_sub [0, 1, 2, 3, 4, 5, 6] rfl ?_
            exact t_X2_value_j358 v0 v1 v2 v3 v4 x8 v6 hv0 s17 _ hk6 hf
          have hf := if_f c16 hf
          by_cases c19 : x3 = (-9)
          · have hf := if_t c19 hf
            rw [c19]
            refine e_tableIn (tgt := 286) dX2_value_170 (by decide) (by decide) rfl (by decide) ?_
            refine e_aload_n dX2_value_286 0 rfl rfl (pc2 := 287) rfl ?_
            refine e_getR (r := Rf v0 2) fl_X2_15 dX2_value_287 (okX2_o hv0) (okX2_R hv0) (isA_ne (okX2_pile hv0)) (pc2 := 290) rfl ?_
            refine e_iload dX2_value_290 5 rfl (pc2 := 292) rfl ?_
            refine e_iconst (x := 1) dX2_value_292 (by decide) (pc2 := 293) rfl ?_
            refine e_isub dX2_value_293 (pc2 := 294) rfl ?_
            refine e_iload dX2_value_294 8 rfl (pc2 := 296) rfl ?_
            refine e_iload dX2_value_296 9 rfl (pc2 := 298) rfl ?_
            refine e_icmp_ne (tgt := 305) dX2_value_298 (by decide) (pc2 := 301) rfl (fun c20 => ?_) (fun c20 => ?_)
            · have hf := if_f c20 hf
              refine e_iconst (x := 0) dX2_value_305 (by decide) (pc2 := 306) rfl ?_
              obtain ⟨g22, hf⟩ := gd_some hf
              obtain ⟨s21, es21, hf⟩ := ltb_s hf
              refine e_iast dX2_value_306 (okX2_pile hv0) (inb_v g22) (h2 := hp s21) (by rw [es21]; rfl) (pc2 := 307) rfl ?_
              refine e_goto (tgt := 358) dX2_value_307 (by decide) ?_
              refine ev_sub [0, 1, 2, 3, 4, 5, 6] rfl ?_
              exact t_X2_value_j358 v0 v1 v2 v3 v4 x8 v6 hv0 s21 _ hk6 hf
            · have hf := if_t c20 hf
              refine e_iconst (x := 1) dX2_value_301 (by decide) (pc2 := 302) rfl ?_
              refine e_goto (tgt := 306) dX2_value_302 (by decide) ?_
              obtain ⟨g24, hf⟩ := gd_some hf
              obtain ⟨s23, es23, hf⟩ := ltb_s hf
              refine e_iast dX2_value_306 (okX2_pile hv0) (inb_v g24) (h2 := hp s23) (by rw [es23]; rfl) (pc2 := 307) rfl ?_
              refine e_goto (tgt := 358) dX2_value_307 (by decide) ?_
              refine ev_sub [0, 1, 2, 3, 4, 5, 6] rfl ?_
              exact t_X2_value_j358 v0 v1 v2 v3 v4 x8 v6 hv0 s23 _ hk6 hf
          have hf := if_f c19 hf
          by_cases c25 : x3 = (-8)
          · have hf := if_t c25 hf
            rw [c25]
            refine e_tableIn (tgt := 262) dX2_value_170 (by decide) (by decide) rfl (by decide) ?_
            refine e_aload_n dX2_value_262 0 rfl rfl (pc2 := 263) rfl ?_
            refine e_getR (r := Rf v0 2) fl_X2_15 dX2_value_263 (okX2_o hv0) (okX2_R hv0) (isA_ne (okX2_pile hv0)) (pc2 := 266) rfl ?_
            refine e_iload dX2_value_266 5 rfl (pc2 := 268) rfl ?_
            refine e_iconst (x := 1) dX2_value_268 (by decide) (pc2 := 269) rfl ?_
            refine e_isub dX2_value_269 (pc2 := 270) rfl ?_
            refine e_iload dX2_value_270 8 rfl (pc2 := 272) rfl ?_
            refine e_iload dX2_value_272 9 rfl (pc2 := 274) rfl ?_
            refine e_icmp_ge (tgt := 281) dX2_value_274 (by decide) (pc2 := 277) rfl (fun c26 => ?_) (fun c26 => ?_)
            · have hf := if_t c26 hf
              refine e_iconst (x := 0) dX2_value_281 (by decide) (pc2 := 282) rfl ?_
              obtain ⟨g28, hf⟩ := gd_some hf
              obtain ⟨s27, es27, hf⟩ := ltb_s hf
              refine e_iast dX2_value_282 (okX2_pile hv0) (inb_v g28) (h2 := hp s27) (by rw [es27]; rfl) (pc2 := 283) rfl ?_
              refine e_goto (tgt := 358) dX2_value_283 (by decide) ?_
              refine ev_sub [0, 1, 2, 3, 4, 5, 6] rfl ?_
              exact t_X2_value_j358 v0 v1 v2 v3 v4 x8 v6 hv0 s27 _ hk6 hf
            · have hf := if_f c26 hf
              refine e_iconst (x := 1) dX2_value_277 (by decide) (pc2 := 278) rfl ?_
              refine e_goto (tgt := 282) dX2_value_278 (by decide) ?_
              obtain ⟨g30, hf⟩ := gd_some hf
              obtain ⟨s29, es29, hf⟩ := ltb_s hf
              refine e_iast dX2_value_282 (okX2_pile hv0) (inb_v g30) (h2 := hp s29) (by rw [es29]; rfl) (pc2 := 283) rfl ?_
              refine e_goto (tgt := 358) dX2_value_283 (by decide) ?_
              refine ev_sub [0, 1, 2, 3, 4, 5, 6] rfl ?_
              exact t_X2_value_j358 v0 v1 v2 v3 v4 x8 v6 hv0 s29 _ hk6 hf
          have hf := if_f c25 hf
          by_cases c31 : x3 = (-7)
          · have hf := if_t c31 hf
            rw [c31]
            refine e_tableIn (tgt := 235) dX2_value_170 (by decide) (by decide) rfl (by decide) ?_
            refine e_aload_n dX2_value_235 0 rfl rfl (pc2 := 236) rfl ?_
            refine e_getR (r := Rf v0 2) fl_X2_15 dX2_value_236 (okX2_o hv0) (okX2_R hv0) (isA_ne (okX2_pile hv0)) (pc2 := 239) rfl ?_
            refine e_iload dX2_value_239 5 rfl (pc2 := 241) rfl ?_
            refine e_iconst (x := 1) dX2_value_241 (by decide) (pc2 := 242) rfl ?_
            refine e_isub dX2_value_242 (pc2 := 243) rfl ?_
            refine e_iload dX2_value_243 8 rfl (pc2 := 245) rfl ?_
            refine e_if_ne (tgt := 253) dX2_value_245 (by decide) (pc2 := 248) rfl (fun c32 => ?_) (fun c32 => ?_)
            · have hf := if_f c32 hf
              refine e_iconst (x := 1) dX2_value_253 (by decide) (pc2 := 254) rfl ?_
              refine e_goto (tgt := 258) dX2_value_254 (by decide) ?_
              obtain ⟨g34, hf⟩ := gd_some hf
              obtain ⟨s33, es33, hf⟩ := ltb_s hf
              refine e_iast dX2_value_258 (okX2_pile hv0) (inb_v g34) (h2 := hp s33) (by rw [es33]; rfl) (pc2 := 259) rfl ?_
              refine e_goto (tgt := 358) dX2_value_259 (by decide) ?_
              refine ev_sub [0, 1, 2, 3, 4, 5, 6] rfl ?_
              exact t_X2_value_j358 v0 v1 v2 v3 v4 x8 v6 hv0 s33 _ hk6 hf
            · have hf := if_t c32 hf
              refine e_iload dX2_value_248 9 rfl (pc2 := 250) rfl ?_
              refine e_if_eq (tgt := 257) dX2_value_250 (by decide) (pc2 := 253) rfl (fun c35 => ?_) (fun c35 => ?_)
              · have hf := if_t c35 hf
                refine e_iconst (x := 0) dX2_value_257 (by decide) (pc2 := 258) rfl ?_
                obtain ⟨g37, hf⟩ := gd_some hf
                obtain ⟨s36, es36, hf⟩ := ltb_s hf
                refine e_iast dX2_value_258 (okX2_pile hv0) (inb_v g37) (h2 := hp s36) (by rw [es36]; rfl) (pc2 := 259) rfl ?_
                refine e_goto (tgt := 358) dX2_value_259 (by decide) ?_
                refine ev_sub [0, 1, 2, 3, 4, 5, 6] rfl ?_
                exact t_X2_value_j358 v0 v1 v2 v3 v4 x8 v6 hv0 s36 _ hk6 hf
              · have hf := if_f c35 hf
                refine e_iconst (x := 1) dX2_value_253 (by decide) (pc2 := 254) rfl ?_
                refine e_goto (tgt := 258) dX2_value_254 (by decide) ?_
                obtain ⟨g39, hf⟩ := gd_some hf
                obtain ⟨s38, es38, hf⟩ := ltb_s hf
                refine e_iast dX2_value_258 (okX2_pile hv0) (inb_v g39) (h2 := hp s38) (by rw [es38]; rfl) (pc2 := 259) rfl ?_
                refine e_goto (tgt := 358) dX2_value_259 (by decide) ?_
                refine ev_sub [0, 1, 2, 3, 4, 5, 6] rfl ?_
                exact t_X2_value_j358 v0 v1 v2 v3 v4 x8 v6 hv0 s38 _ hk6 hf
          have hf := if_f c31 hf
          by_cases c40 : x3 = (-6)
          · have hf := if_t c40 hf
            rw [c40]
            refine e_tableIn (tgt := 208) dX2_value_170 (by decide) (by decide) rfl (by decide) ?_
            refine e_aload_n dX2_value_208 0 rfl rfl (pc2 := 209) rfl ?_
            refine e_getR (r := Rf v0 2) fl_X2_15 dX2_value_209 (okX2_o hv0) (okX2_R hv0) (isA_ne (okX2_pile hv0)) (pc2 := 212) rfl ?_
            refine e_iload dX2_value_212 5 rfl (pc2 := 214) rfl ?_
            refine e_iconst (x := 1) dX2_value_214 (by decide) (pc2 := 215) rfl ?_
            refine e_isub dX2_value_215 (pc2 := 216) rfl ?_
            refine e_iload dX2_value_216 8 rfl (pc2 := 218) rfl ?_
            refine e_if_eq (tgt := 230) dX2_value_218 (by decide) (pc2 := 221) rfl (fun c41 => ?_) (fun c41 => ?_)
            · have hf := if_t c41 hf
              refine e_iconst (x := 0) dX2_value_230 (by decide) (pc2 := 231) rfl ?_
              obtain ⟨g43, hf⟩ := gd_some hf
              obtain ⟨s42, es42, hf⟩ := ltb_s hf
              refine e_iast dX2_value_231 (okX2_pile hv0) (inb_v g43) (h2 := hp s42) (by rw [es42]; rfl) (pc2 := 232) rfl ?_
              refine e_goto (tgt := 358) dX2_value_232 (by decide) ?_
              refine ev_sub [0, 1, 2, 3, 4, 5, 6] rfl ?_
              exact t_X2_value_j358 v0 v1 v2 v3 v4 x8 v6 hv0 s42 _ hk6 hf
            · have hf := if_f c41 hf
              refine e_iload dX2_value_221 9 rfl (pc2 := 223) rfl ?_
              refine e_if_eq (tgt := 230) dX2_value_223 (by decide) (pc2 := 226) rfl (fun c44 => ?_) (fun c44 => ?_)
              · have hf := if_t c44 hf
                refine e_iconst (x := 0) dX2_value_230 (by decide) (pc2 := 231) rfl ?_
                obtain ⟨g46, hf⟩ := gd_some hf
                obtain ⟨s45, es45, hf⟩ := ltb_s hf
                refine e_iast dX2_value_231 (okX2_pile hv0) (inb_v g46) (h2 := hp s45) (by rw [es45]; rfl) (pc2 := 232) rfl ?_
                refine e_goto (tgt := 358) dX2_value_232 (by decide) ?_
                refine ev_sub [0, 1, 2, 3, 4, 5, 6] rfl ?_
                exact t_X2_value_j358 v0 v1 v2 v3 v4 x8 v6 hv0 s45 _ hk6 hf
              · have hf := if_f c44 hf
                refine e_iconst (x := 1) dX2_value_226 (by decide) (pc2 := 227) rfl ?_
                refine e_goto (tgt := 231) dX2_value_227 (by decide) ?_
                obtain ⟨g48, hf⟩ := gd_some hf
                obtain ⟨s47, es47, hf⟩ := ltb_s hf
                refine e_iast dX2_value_231 (okX2_pile hv0) (inb_v g48) (h2 := hp s47) (by rw [es47]; rfl) (pc2 := 232) rfl ?_
                refine e_goto (tgt := 358) dX2_value_232 (by decide) ?_
                refine ev_sub [0, 1, 2, 3, 4, 5, 6] rfl ?_
                exact t_X2_value_j358 v0 v1 v2 v3 v4 x8 v6 hv0 s47 _ hk6 hf
          have hf := if_f c40 hf
          refine e_tableOut (tgt := 344) dX2_value_170 ?_ (by decide) ?_
          · have q0 := lv_neT (a := (-11)) c13 (by decide)
            have q1 := lv_neT (a := (-10)) c16 (by decide)
            have q2 := lv_neT (a := (-9)) c19 (by decide)
            have q3 := lv_neT (a := (-8)) c25 (by decide)
            have q4 := lv_neT (a := (-7)) c31 (by decide)
            have q5 := lv_neT (a := (-6)) c40 (by decide)
            omega
          refine e_aload_n dX2_value_344 0 rfl rfl (pc2 := 345) rfl ?_
          refine e_getR (r := Rf v0 2) fl_X2_15 dX2_value_345 (okX2_o hv0) (okX2_R hv0) (isA_ne (okX2_pile hv0)) (pc2 := 348) rfl ?_
          refine e_iload dX2_value_348 5 rfl (pc2 := 350) rfl ?_
          refine e_iconst (x := 1) dX2_value_350 (by decide) (pc2 := 351) rfl ?_
          refine e_isub dX2_value_351 (pc2 := 352) rfl ?_
          refine e_iload dX2_value_352 8 rfl (pc2 := 354) rfl ?_
          refine e_iload dX2_value_354 9 rfl (pc2 := 356) rfl ?_
          refine e_imul dX2_value_356 (pc2 := 357) rfl ?_
          obtain ⟨g50, hf⟩ := gd_some hf
          obtain ⟨s49, es49, hf⟩ := ltb_s hf
          refine e_iast dX2_value_357 (okX2_pile hv0) (inb_v g50) (h2 := hp s49) (by rw [es49]; rfl) (pc2 := 358) rfl ?_
          refine ev_sub [0, 1, 2, 3, 4, 5, 6] rfl ?_
          exact t_X2_value_j358 v0 v1 v2 v3 v4 x8 v6 hv0 s49 _ hk6 hf
      · have hf := if_t c5 hf
        refine e_iload dX2_value_105 5 rfl (pc2 := 107) rfl ?_
        refine e_if_le (tgt := 358) dX2_value_107 (by decide) (pc2 := 110) rfl (fun c51 => ?_) (fun c51 => ?_)
        · have hf := if_t c51 hf
          refine ev_sub [0, 1, 2, 3, 4, 5, 6] rfl ?_
          exact t_X2_value_j358 v0 v1 v2 v3 v4 v5 v6 hv0 s _ hk6 hf
        · have hf := if_f c51 hf
          refine e_aload_n dX2_value_110 0 rfl rfl (pc2 := 111) rfl ?_
          refine e_getR (r := Rf v0 2) fl_X2_15 dX2_value_111 (okX2_o hv0) (okX2_R hv0) (isA_ne (okX2_pile hv0)) (pc2 := 114) rfl ?_
          refine e_iload dX2_value_114 5 rfl (pc2 := 116) rfl ?_
          refine e_iconst (x := 1) dX2_value_116 (by decide) (pc2 := 117) rfl ?_
          refine e_isub dX2_value_117 (pc2 := 118) rfl ?_
          refine e_aload_n dX2_value_118 0 rfl rfl (pc2 := 119) rfl ?_
          refine e_getR (r := Rf v0 2) fl_X2_15 dX2_value_119 (okX2_o hv0) (okX2_R hv0) (isA_ne (okX2_pile hv0)) (pc2 := 122) rfl ?_
          refine e_iload dX2_value_122 5 rfl (pc2 := 124) rfl ?_
          refine e_iconst (x := 1) dX2_value_124 (by decide) (pc2 := 125) rfl ?_
          refine e_isub dX2_value_125 (pc2 := 126) rfl ?_
          obtain ⟨g52, hf⟩ := gd_some hf
          refine e_iald dX2_value_126 (okX2_pile hv0) (inb_v g52) (pc2 := 127) rfl ?_
          refine e_if_ne (tgt := 134) dX2_value_127 (by decide) (pc2 := 130) rfl (fun c53 => ?_) (fun c53 => ?_)
          · have hf := if_f c53 hf
            refine e_iconst (x := 0) dX2_value_134 (by decide) (pc2 := 135) rfl ?_
            obtain ⟨g55, hf⟩ := gd_some hf
            obtain ⟨s54, es54, hf⟩ := ltb_s hf
            refine e_iast dX2_value_135 (okX2_pile hv0) (inb_v g55) (h2 := hp s54) (by rw [es54]; rfl) (pc2 := 136) rfl ?_
            refine e_goto (tgt := 358) dX2_value_136 (by decide) ?_
            refine ev_sub [0, 1, 2, 3, 4, 5, 6] rfl ?_
            exact t_X2_value_j358 v0 v1 v2 v3 v4 v5 v6 hv0 s54 _ hk6 hf
          · have hf := if_t c53 hf
            refine e_iconst (x := 1) dX2_value_130 (by decide) (pc2 := 131) rfl ?_
            refine e_goto (tgt := 135) dX2_value_131 (by decide) ?_
            obtain ⟨g57, hf⟩ := gd_some hf
            obtain ⟨s56, es56, hf⟩ := ltb_s hf
            refine e_iast dX2_value_135 (okX2_pile hv0) (inb_v g57) (h2 := hp s56) (by rw [es56]; rfl) (pc2 := 136) rfl ?_
            refine e_goto (tgt := 358) dX2_value_136 (by decide) ?_
            refine ev_sub [0, 1, 2, 3, 4, 5, 6] rfl ?_
            exact t_X2_value_j358 v0 v1 v2 v3 v4 v5 v6 hv0 s56 _ hk6 hf
    · have hf := if_f c4 hf
      refine e_iload dX2_value_31 5 rfl (pc2 := 33) rfl ?_
      refine e_aload_n dX2_value_33 0 rfl rfl (pc2 := 34) rfl ?_
      refine e_getR (r := Rf v0 2) fl_X2_15 dX2_value_34 (okX2_o hv0) (okX2_R hv0) (isA_ne (okX2_pile hv0)) (pc2 := 37) rfl ?_
      refine e_alen (x := 32) dX2_value_37 (okX2_pile hv0) (by decide) (by decide) (pc2 := 38) rfl ?_
      refine e_icmp_ge (tgt := 358) dX2_value_38 (by decide) (pc2 := 41) rfl (fun c58 => ?_) (fun c58 => ?_)
      · have hf := if_t c58 hf
        refine ev_sub [0, 1, 2, 3, 4, 5, 6] rfl ?_
        exact t_X2_value_j358 v0 v1 v2 v3 v4 v5 v6 hv0 s _ hk6 hf
      · have hf := if_f c58 hf
        refine e_aload_n dX2_value_41 0 rfl rfl (pc2 := 42) rfl ?_
        refine e_getR (r := Rf v0 2) fl_X2_15 dX2_value_42 (okX2_o hv0) (okX2_R hv0) (isA_ne (okX2_pile hv0)) (pc2 := 45) rfl ?_
        refine e_iload dX2_value_45 5 rfl (pc2 := 47) rfl ?_
        refine e_iload dX2_value_47 7 rfl (pc2 := 49) rfl ?_
        refine e_if_lt (tgt := 57) dX2_value_49 (by decide) (pc2 := 52) rfl (fun c59 => ?_) (fun c59 => ?_)
        · have hf := if_t c59 hf
          refine e_iload dX2_value_57 7 rfl (pc2 := 59) rfl ?_
          refine e_iconst (x := (-1)) dX2_value_59 (by decide) (pc2 := 60) rfl ?_
          refine e_icmp_ne (tgt := 67) dX2_value_60 (by decide) (pc2 := 63) rfl (fun c60 => ?_) (fun c60 => ?_)
          · have hf := if_f c60 hf
            refine e_iload dX2_value_67 7 rfl (pc2 := 69) rfl ?_
            refine e_bipush (x := (-2)) dX2_value_69 (by decide) (pc2 := 71) rfl ?_
            refine e_icmp_ne (tgt := 78) dX2_value_71 (by decide) (pc2 := 74) rfl (fun c61 => ?_) (fun c61 => ?_)
            · have hf := if_f c61 hf
              refine e_iload dX2_value_78 7 rfl (pc2 := 80) rfl ?_
              refine e_bipush (x := (-3)) dX2_value_80 (by decide) (pc2 := 82) rfl ?_
              refine e_icmp_ne (tgt := 89) dX2_value_82 (by decide) (pc2 := 85) rfl (fun c62 => ?_) (fun c62 => ?_)
              · have hf := if_f c62 hf
                refine e_iload dX2_value_89 4 rfl (pc2 := 91) rfl ?_
                obtain ⟨g64, hf⟩ := gd_some hf
                obtain ⟨s63, es63, hf⟩ := ltb_s hf
                refine e_iast dX2_value_91 (okX2_pile hv0) (inb_v g64) (h2 := hp s63) (by rw [es63]; rfl) (pc2 := 92) rfl ?_
                obtain ⟨x65, ex65, hf⟩ := ltb_s hf
                refine e_iinc dX2_value_92 5 rfl (c9 := 1) (by decide) ex65.symm (by decide) (ls' := [(0, .ref v0), (1, .int v1), (2, .int v2), (3, .int v3), (4, .int v4), (5, .int x65), (6, .int v6)]) [1, 2, 3, 4, 5, 0, 6] rfl (pc2 := 95) rfl ?_
                refine e_goto (tgt := 358) dX2_value_95 (by decide) ?_
                exact t_X2_value_j358 v0 v1 v2 v3 v4 x65 v6 hv0 s63 _ hk6 hf
              · have hf := if_t c62 hf
                refine e_iload_n dX2_value_85 3 rfl rfl (pc2 := 86) rfl ?_
                refine e_goto (tgt := 91) dX2_value_86 (by decide) ?_
                obtain ⟨g67, hf⟩ := gd_some hf
                obtain ⟨s66, es66, hf⟩ := ltb_s hf
                refine e_iast dX2_value_91 (okX2_pile hv0) (inb_v g67) (h2 := hp s66) (by rw [es66]; rfl) (pc2 := 92) rfl ?_
                obtain ⟨x68, ex68, hf⟩ := ltb_s hf
                refine e_iinc dX2_value_92 5 rfl (c9 := 1) (by decide) ex68.symm (by decide) (ls' := [(0, .ref v0), (1, .int v1), (2, .int v2), (3, .int v3), (4, .int v4), (5, .int x68), (6, .int v6)]) [1, 2, 3, 4, 5, 0, 6] rfl (pc2 := 95) rfl ?_
                refine e_goto (tgt := 358) dX2_value_95 (by decide) ?_
                exact t_X2_value_j358 v0 v1 v2 v3 v4 x68 v6 hv0 s66 _ hk6 hf
            · have hf := if_t c61 hf
              refine e_iload_n dX2_value_74 2 rfl rfl (pc2 := 75) rfl ?_
              refine e_goto (tgt := 91) dX2_value_75 (by decide) ?_
              obtain ⟨g70, hf⟩ := gd_some hf
              obtain ⟨s69, es69, hf⟩ := ltb_s hf
              refine e_iast dX2_value_91 (okX2_pile hv0) (inb_v g70) (h2 := hp s69) (by rw [es69]; rfl) (pc2 := 92) rfl ?_
              obtain ⟨x71, ex71, hf⟩ := ltb_s hf
              refine e_iinc dX2_value_92 5 rfl (c9 := 1) (by decide) ex71.symm (by decide) (ls' := [(0, .ref v0), (1, .int v1), (2, .int v2), (3, .int v3), (4, .int v4), (5, .int x71), (6, .int v6)]) [1, 2, 3, 4, 5, 0, 6] rfl (pc2 := 95) rfl ?_
              refine e_goto (tgt := 358) dX2_value_95 (by decide) ?_
              exact t_X2_value_j358 v0 v1 v2 v3 v4 x71 v6 hv0 s69 _ hk6 hf
          · have hf := if_t c60 hf
            refine e_iload_n dX2_value_63 1 rfl rfl (pc2 := 64) rfl ?_
            refine e_goto (tgt := 91) dX2_value_64 (by decide) ?_
            obtain ⟨g73, hf⟩ := gd_some hf
            obtain ⟨s72, es72, hf⟩ := ltb_s hf
            refine e_iast dX2_value_91 (okX2_pile hv0) (inb_v g73) (h2 := hp s72) (by rw [es72]; rfl) (pc2 := 92) rfl ?_
            obtain ⟨x74, ex74, hf⟩ := ltb_s hf
            refine e_iinc dX2_value_92 5 rfl (c9 := 1) (by decide) ex74.symm (by decide) (ls' := [(0, .ref v0), (1, .int v1), (2, .int v2), (3, .int v3), (4, .int v4), (5, .int x74), (6, .int v6)]) [1, 2, 3, 4, 5, 0, 6] rfl (pc2 := 95) rfl ?_
            refine e_goto (tgt := 358) dX2_value_95 (by decide) ?_
            exact t_X2_value_j358 v0 v1 v2 v3 v4 x74 v6 hv0 s72 _ hk6 hf
        · have hf := if_f c59 hf
          refine e_iload dX2_value_52 7 rfl (pc2 := 54) rfl ?_
          refine e_goto (tgt := 91) dX2_value_54 (by decide) ?_
          obtain ⟨g76, hf⟩ := gd_some hf
          obtain ⟨s75, es75, hf⟩ := ltb_s hf
          refine e_iast dX2_value_91 (okX2_pile hv0) (inb_v g76) (h2 := hp s75) (by rw [es75]; rfl) (pc2 := 92) rfl ?_
          obtain ⟨x77, ex77, hf⟩ := ltb_s hf
          refine e_iinc dX2_value_92 5 rfl (c9 := 1) (by decide) ex77.symm (by decide) (ls' := [(0, .ref v0), (1, .int v1), (2, .int v2), (3, .int v3), (4, .int v4), (5, .int x77), (6, .int v6)]) [1, 2, 3, 4, 5, 0, 6] rfl (pc2 := 95) rfl ?_
          refine e_goto (tgt := 358) dX2_value_95 (by decide) ?_
          exact t_X2_value_j358 v0 v1 v2 v3 v4 x77 v6 hv0 s75 _ hk6 hf
def f_X2_value_l6 (v0 : Nat) (v1 : Int32) (v2 : Int32) (v3 : Int32) (v4 : Int32) (k364 : Int32 → HS → Option (Int32 × HS)) : Nat → Int32 → Int32 → HS → Option (Int32 × HS)
  | 0, _, _, _ => none
  | n + 1, v5, v6, s => f_X2_value_l6b v0 v1 v2 v3 v4 v5 v6 (f_X2_value_l6 v0 v1 v2 v3 v4 k364 n) k364 s
set_option maxRecDepth 20000 in
set_option maxHeartbeats 2000000 in
theorem t_X2_value_l6 (v0 : Nat) (v1 : Int32) (v2 : Int32) (v3 : Int32) (v4 : Int32) (hv0 : okX2 v0 = true) {x : Int32} {t : HS} (k364 : Int32 → HS → Option (Int32 × HS)) (hk364 : ∀ (a5 : Int32) (s : HS), k364 a5 s = some (x, t) → Ev DDX2_value miX2_value NF (some (.int x)) NF (hp t) 364 NF [(0, .ref v0), (5, .int a5)] [] (hp s)) : ∀ (n : Nat) (v5 : Int32) (v6 : Int32) (s : HS), f_X2_value_l6 v0 v1 v2 v3 v4 k364 n v5 v6 s = some (x, t) → Ev DDX2_value miX2_value NF (some (.int x)) NF (hp t) 6 NF [(0, .ref v0), (1, .int v1), (2, .int v2), (3, .int v3), (4, .int v4), (5, .int v5), (6, .int v6)] [] (hp s) := by
  intro n
  induction n with
  | zero =>
    intro v5 v6 s hf
    have hf : none = some (x, t) := hf
    cases hf
  | succ n ih =>
    intro v5 v6 s hf
    exact t_X2_value_l6b v0 v1 v2 v3 v4 v5 v6 hv0 s _ ih _ hk364 hf
def f_X2_value (p : Nat) (v1 : Int32) (v2 : Int32) (v3 : Int32) (v4 : Int32) (s : HS) : Option (Int32 × HS) :=
  f_X2_value_l6 p v1 v2 v3 v4 (fun v78 s79 => (if v78 ≤ 0 then some (0, s79) else some (s79.1 (Rf p 2) 0, s79))) FU 0 0 s
set_option maxRecDepth 20000 in
set_option maxHeartbeats 2000000 in
theorem t_X2_value (p : Nat) (hp_ : okX2 p = true) (v1 : Int32) (v2 : Int32) (v3 : Int32) (v4 : Int32) (s : HS) {x : Int32} {t : HS} (hf : f_X2_value p v1 v2 v3 v4 s = some (x, t)) : Mt DDX2_value miX2_value [.ref p, .int v1, .int v2, .int v3, .int v4] NF (hp s) (some (.int x)) NF (hp t) := by
  refine Mt.of (by decide +kernel) (Nat.le_refl _) (Nat.le_of_ble_eq_true rfl) ?_
  show Ev DDX2_value miX2_value NF (some (.int x)) NF (hp t) 0 NF [(0, .ref p), (1, .int v1), (2, .int v2), (3, .int v3), (4, .int v4)] [] (hp s)
  unfold f_X2_value at hf
  refine e_iconst (x := 0) dX2_value_0 (by decide) (pc2 := 1) rfl ?_
  refine e_istore dX2_value_1 (by decide) rfl (ls' := [(0, .ref p), (1, .int v1), (2, .int v2), (3, .int v3), (4, .int v4), (5, .int 0)]) [1, 2, 3, 4, 5, 0] rfl (pc2 := 3) rfl ?_
  refine e_iconst (x := 0) dX2_value_3 (by decide) (pc2 := 4) rfl ?_
  refine e_istore dX2_value_4 (by decide) rfl (ls' := [(0, .ref p), (1, .int v1), (2, .int v2), (3, .int v3), (4, .int v4), (5, .int 0), (6, .int 0)]) [1, 2, 3, 4, 5, 6, 0] rfl (pc2 := 6) rfl ?_
  refine t_X2_value_l6 p v1 v2 v3 v4 hp_ _ ?_ FU 0 0 s hf
  · intro v78 s79 hf
    refine e_iload dX2_value_364 1 rfl (pc2 := 366) rfl ?_
    refine e_if_le (tgt := 378) dX2_value_366 (by decide) (pc2 := 369) rfl (fun c80 => ?_) (fun c80 => ?_)
    · have hf := if_t c80 hf
      refine e_iconst (x := 0) dX2_value_378 (by decide) (pc2 := 379) rfl ?_
      cases hf
      exact e_iret rfl dX2_value_379
    · have hf := if_f c80 hf
      refine e_aload_n dX2_value_369 0 rfl rfl (pc2 := 370) rfl ?_
      refine e_getR (r := Rf p 2) fl_X2_15 dX2_value_370 (okX2_o hp_) (okX2_R hp_) (isA_ne (okX2_pile hp_)) (pc2 := 373) rfl ?_
      refine e_iconst (x := 0) dX2_value_373 (by decide) (pc2 := 374) rfl ?_
      refine e_iald dX2_value_374 (okX2_pile hp_) (inb_v (by decide)) (pc2 := 375) rfl ?_
      refine e_goto (tgt := 379) dX2_value_375 (by decide) ?_
      cases hf
      exact e_iret rfl dX2_value_379
abbrev DDX3_factOf : Nat := 1
def f_X3_factOf (v0 : Nat) (s : HS) : Int32 :=
  (if v0 = 1033 then (-1) else (if v0 = 1034 then (-2) else (if v0 = 1035 then (-3) else (-4))))
set_option maxRecDepth 20000 in
set_option maxHeartbeats 2000000 in
theorem t_X3_factOf (v0 : Nat) (hv0 : wob v0 = true) (s : HS) {x : Int32} (hf : f_X3_factOf v0 s = x) : Mt DDX3_factOf miX3_factOf [rva v0] NF (hp s) (some (.int x)) NF (hp s) := by
  refine Mt.of (by decide +kernel) (Nat.le_refl _) (by simp [lg_sl, rva_cat, vc_i, vc_r, vc_l, vc_n]) ?_
  rw [show lv_args 0 [rva v0] = [(0, rva v0)] by simp [lv_args, rva_cat, vc_i, vc_r, vc_l, vc_n]]
  show Ev DDX3_factOf miX3_factOf NF (some (.int x)) NF (hp s) 0 NF [(0, rva v0)] [] (hp s)
  unfold f_X3_factOf at hf
  refine e_aload_nQ (w := v0) dX3_factOf_0 0 rfl rfl (pc2 := 1) rfl ?_
  refine e_getsE (i := 33) (by decide) dX3_factOf_1 gs_X3_82 (pc2 := 4) rfl ?_
  refine e_acmp_ne (tgt := 11) dX3_factOf_4 (by decide) (w1 := v0) (w2 := 1033) hv0 (by decide) (pc2 := 7) rfl (fun c1 => ?_) (fun c1 => ?_)
  · have hf := if_f c1 hf
    refine e_aload_nQ (w := v0) dX3_factOf_11 0 rfl rfl (pc2 := 12) rfl ?_
    refine e_getsE (i := 34) (by decide) dX3_factOf_12 gs_X3_85 (pc2 := 15) rfl ?_
    refine e_acmp_ne (tgt := 23) dX3_factOf_15 (by decide) (w1 := v0) (w2 := 1034) hv0 (by decide) (pc2 := 18) rfl (fun c2 => ?_) (fun c2 => ?_)
    · have hf := if_f c2 hf
      refine e_aload_nQ (w := v0) dX3_factOf_23 0 rfl rfl (pc2 := 24) rfl ?_
      refine e_getsE (i := 35) (by decide) dX3_factOf_24 gs_X3_88 (pc2 := 27) rfl ?_
      refine e_acmp_ne (tgt := 35) dX3_factOf_27 (by decide) (w1 := v0) (w2 := 1035) hv0 (by decide) (pc2 := 30) rfl (fun c3 => ?_) (fun c3 => ?_)
      · have hf := if_f c3 hf
        refine e_bipush (x := (-4)) dX3_factOf_35 (by decide) (pc2 := 37) rfl ?_
        cases hf
        exact e_iret rfl dX3_factOf_37
      · have hf := if_t c3 hf
        refine e_bipush (x := (-3)) dX3_factOf_30 (by decide) (pc2 := 32) rfl ?_
        refine e_goto (tgt := 37) dX3_factOf_32 (by decide) ?_
        cases hf
        exact e_iret rfl dX3_factOf_37
    · have hf := if_t c2 hf
      refine e_bipush (x := (-2)) dX3_factOf_18 (by decide) (pc2 := 20) rfl ?_
      refine e_goto (tgt := 37) dX3_factOf_20 (by decide) ?_
      cases hf
      exact e_iret rfl dX3_factOf_37
  · have hf := if_t c1 hf
    refine e_iconst (x := (-1)) dX3_factOf_7 (by decide) (pc2 := 8) rfl ?_
    refine e_goto (tgt := 37) dX3_factOf_8 (by decide) ?_
    cases hf
    exact e_iret rfl dX3_factOf_37
abbrev DDX4_clear : Nat := 1
def f_X4_clear (p : Nat) (s : HS) : Option HS :=
  ltb (sI s p 0 600) fun s1 => ltb (sI s1 p 1 540) fun s2 => ltb (sI s2 p 2 2) fun s3 => ltb (sI s3 p 3 10) fun s4 => ltb (sI s4 p 4 60) fun s5 => ltb (sI s5 p 5 30) fun s6 => ltb (sI s6 p 6 5) fun s7 => ltb (sI s7 (Rf p 7) (0) 10) fun s8 => ltb (sI s8 (Rf p 7) (1) 0) fun s9 => ltb (sI s9 (Rf p 7) (2) 0) fun s10 => ltb (sI s10 (Rf p 7) (3) 0) fun s11 => ltb (sI s11 (Rf p 8) 1 0) fun s12 => ltb (sI s12 p 9 0) fun s13 => ltb (sI s13 p 12 0) fun s14 => ltb (sI s14 p 14 0) fun s15 => some s15
set_option maxRecDepth 20000 in
set_option maxHeartbeats 2000000 in
theorem t_X4_clear (p : Nat) (hp_ : okX4 p = true) (s : HS) {t : HS} (hf : f_X4_clear p s = some t) : Mt DDX4_clear miX4_clear [.ref p] NF (hp s) none NF (hp t) := by
  refine Mt.of (by decide +kernel) (Nat.le_refl _) (Nat.le_of_ble_eq_true rfl) ?_
  show Ev DDX4_clear miX4_clear NF none NF (hp t) 0 NF [(0, .ref p)] [] (hp s)
  unfold f_X4_clear at hf
  refine e_aload_n dX4_clear_0 0 rfl rfl (pc2 := 1) rfl ?_
  refine e_sipush (x := 600) dX4_clear_1 (by decide) (pc2 := 4) rfl ?_
  obtain ⟨s1, es1, hf⟩ := ltb_s hf
  refine e_putI fl_X4_46 dX4_clear_4 (okX4_o hp_) fn_4_0 (h2 := hp s1) (by rw [es1]; rfl) (pc2 := 7) rfl ?_
  refine e_aload_n dX4_clear_7 0 rfl rfl (pc2 := 8) rfl ?_
  refine e_sipush (x := 540) dX4_clear_8 (by decide) (pc2 := 11) rfl ?_
  obtain ⟨s2, es2, hf⟩ := ltb_s hf
  refine e_putI fl_X4_50 dX4_clear_11 (okX4_o hp_) fn_4_1 (h2 := hp s2) (by rw [es2]; rfl) (pc2 := 14) rfl ?_
  refine e_aload_n dX4_clear_14 0 rfl rfl (pc2 := 15) rfl ?_
  refine e_iconst (x := 2) dX4_clear_15 (by decide) (pc2 := 16) rfl ?_
  obtain ⟨s3, es3, hf⟩ := ltb_s hf
  refine e_putI fl_X4_53 dX4_clear_16 (okX4_o hp_) fn_4_2 (h2 := hp s3) (by rw [es3]; rfl) (pc2 := 19) rfl ?_
  refine e_aload_n dX4_clear_19 0 rfl rfl (pc2 := 20) rfl ?_
  refine e_bipush (x := 10) dX4_clear_20 (by decide) (pc2 := 22) rfl ?_
  obtain ⟨s4, es4, hf⟩ := ltb_s hf
  refine e_putI fl_X4_56 dX4_clear_22 (okX4_o hp_) fn_4_3 (h2 := hp s4) (by rw [es4]; rfl) (pc2 := 25) rfl ?_
  refine e_aload_n dX4_clear_25 0 rfl rfl (pc2 := 26) rfl ?_
  refine e_bipush (x := 60) dX4_clear_26 (by decide) (pc2 := 28) rfl ?_
  obtain ⟨s5, es5, hf⟩ := ltb_s hf
  refine e_putI fl_X4_59 dX4_clear_28 (okX4_o hp_) fn_4_4 (h2 := hp s5) (by rw [es5]; rfl) (pc2 := 31) rfl ?_
  refine e_aload_n dX4_clear_31 0 rfl rfl (pc2 := 32) rfl ?_
  refine e_bipush (x := 30) dX4_clear_32 (by decide) (pc2 := 34) rfl ?_
  obtain ⟨s6, es6, hf⟩ := ltb_s hf
  refine e_putI fl_X4_62 dX4_clear_34 (okX4_o hp_) fn_4_5 (h2 := hp s6) (by rw [es6]; rfl) (pc2 := 37) rfl ?_
  refine e_aload_n dX4_clear_37 0 rfl rfl (pc2 := 38) rfl ?_
  refine e_iconst (x := 5) dX4_clear_38 (by decide) (pc2 := 39) rfl ?_
  obtain ⟨s7, es7, hf⟩ := ltb_s hf
  refine e_putI fl_X4_65 dX4_clear_39 (okX4_o hp_) fn_4_6 (h2 := hp s7) (by rw [es7]; rfl) (pc2 := 42) rfl ?_
  refine e_aload_n dX4_clear_42 0 rfl rfl (pc2 := 43) rfl ?_
  refine e_getR (r := Rf p 7) fl_X4_9 dX4_clear_43 (okX4_o hp_) (okX4_R hp_) (isA_ne (okX4_late hp_)) (pc2 := 46) rfl ?_
  refine e_iconst (x := 0) dX4_clear_46 (by decide) (pc2 := 47) rfl ?_
  refine e_bipush (x := 10) dX4_clear_47 (by decide) (pc2 := 49) rfl ?_
  obtain ⟨s8, es8, hf⟩ := ltb_s hf
  refine e_iast dX4_clear_49 (okX4_late hp_) (inb_v (by decide)) (h2 := hp s8) (by rw [es8]; rfl) (pc2 := 50) rfl ?_
  refine e_aload_n dX4_clear_50 0 rfl rfl (pc2 := 51) rfl ?_
  refine e_getR (r := Rf p 7) fl_X4_9 dX4_clear_51 (okX4_o hp_) (okX4_R hp_) (isA_ne (okX4_late hp_)) (pc2 := 54) rfl ?_
  refine e_iconst (x := 1) dX4_clear_54 (by decide) (pc2 := 55) rfl ?_
  refine e_iconst (x := 0) dX4_clear_55 (by decide) (pc2 := 56) rfl ?_
  obtain ⟨s9, es9, hf⟩ := ltb_s hf
  refine e_iast dX4_clear_56 (okX4_late hp_) (inb_v (by decide)) (h2 := hp s9) (by rw [es9]; rfl) (pc2 := 57) rfl ?_
  refine e_aload_n dX4_clear_57 0 rfl rfl (pc2 := 58) rfl ?_
  refine e_getR (r := Rf p 7) fl_X4_9 dX4_clear_58 (okX4_o hp_) (okX4_R hp_) (isA_ne (okX4_late hp_)) (pc2 := 61) rfl ?_
  refine e_iconst (x := 2) dX4_clear_61 (by decide) (pc2 := 62) rfl ?_
  refine e_iconst (x := 0) dX4_clear_62 (by decide) (pc2 := 63) rfl ?_
  obtain ⟨s10, es10, hf⟩ := ltb_s hf
  refine e_iast dX4_clear_63 (okX4_late hp_) (inb_v (by decide)) (h2 := hp s10) (by rw [es10]; rfl) (pc2 := 64) rfl ?_
  refine e_aload_n dX4_clear_64 0 rfl rfl (pc2 := 65) rfl ?_
  refine e_getR (r := Rf p 7) fl_X4_9 dX4_clear_65 (okX4_o hp_) (okX4_R hp_) (isA_ne (okX4_late hp_)) (pc2 := 68) rfl ?_
  refine e_iconst (x := 3) dX4_clear_68 (by decide) (pc2 := 69) rfl ?_
  refine e_iconst (x := 0) dX4_clear_69 (by decide) (pc2 := 70) rfl ?_
  obtain ⟨s11, es11, hf⟩ := ltb_s hf
  refine e_iast dX4_clear_70 (okX4_late hp_) (inb_v (by decide)) (h2 := hp s11) (by rw [es11]; rfl) (pc2 := 71) rfl ?_
  refine e_aload_n dX4_clear_71 0 rfl rfl (pc2 := 72) rfl ?_
  refine e_getR (r := Rf p 8) fl_X4_18 dX4_clear_72 (okX4_o hp_) (okX4_R hp_) (okX2_ne (okX4_order hp_)) (pc2 := 75) rfl ?_
  refine e_iconst (x := 0) dX4_clear_75 (by decide) (pc2 := 76) rfl ?_
  obtain ⟨s12, es12, hf⟩ := ltb_s hf
  refine e_putI fl_X4_68 dX4_clear_76 (okX2_o (okX4_order hp_)) fn_2_1 (h2 := hp s12) (by rw [es12]; rfl) (pc2 := 79) rfl ?_
  refine e_aload_n dX4_clear_79 0 rfl rfl (pc2 := 80) rfl ?_
  refine e_iconst (x := 0) dX4_clear_80 (by decide) (pc2 := 81) rfl ?_
  obtain ⟨s13, es13, hf⟩ := ltb_s hf
  refine e_putI fl_X4_71 dX4_clear_81 (okX4_o hp_) fn_4_9 (h2 := hp s13) (by rw [es13]; rfl) (pc2 := 84) rfl ?_
  refine e_aload_n dX4_clear_84 0 rfl rfl (pc2 := 85) rfl ?_
  refine e_iconst (x := 0) dX4_clear_85 (by decide) (pc2 := 86) rfl ?_
  obtain ⟨s14, es14, hf⟩ := ltb_s hf
  refine e_putI fl_X4_74 dX4_clear_86 (okX4_o hp_) fn_4_12 (h2 := hp s14) (by rw [es14]; rfl) (pc2 := 89) rfl ?_
  refine e_aload_n dX4_clear_89 0 rfl rfl (pc2 := 90) rfl ?_
  refine e_iconst (x := 0) dX4_clear_90 (by decide) (pc2 := 91) rfl ?_
  obtain ⟨s15, es15, hf⟩ := ltb_s hf
  refine e_putI fl_X4_77 dX4_clear_91 (okX4_o hp_) fn_4_14 (h2 := hp s15) (by rw [es15]; rfl) (pc2 := 94) rfl ?_
  cases hf
  exact e_vret rfl dX4_clear_94
abbrev DDX4_coachOf : Nat := 1
def f_X4_coachOf_l2b (v0 : Nat) (v1 : Int64) (v3 : Int32) (k2 : Int32 → Option Int32) (s : HS) : Option Int32 :=
  (if (s.1 v0 9) ≤ v3 then some (-1) else gd (inb v3 6) ((if (lg_cmp (s.2.1 (Rf v0 10) v3.toNatClampNeg) v1) = 0 then some v3 else ltb (v3 + 1) fun x4 => k2 x4)))
set_option maxRecDepth 20000 in
set_option maxHeartbeats 2000000 in
theorem t_X4_coachOf_l2b (v0 : Nat) (v1 : Int64) (v3 : Int32) (hv0 : okX4 v0 = true) (s : HS) {x : Int32} (k2 : Int32 → Option Int32) (hk2 : ∀ (a3 : Int32), k2 a3 = some x → Ev DDX4_coachOf miX4_coachOf NF (some (.int x)) NF (hp s) 2 NF [(0, .ref v0), (1, .long v1), (3, .int a3)] [] (hp s)) (hf : f_X4_coachOf_l2b v0 v1 v3 k2 s = some x) : Ev DDX4_coachOf miX4_coachOf NF (some (.int x)) NF (hp s) 2 NF [(0, .ref v0), (1, .long v1), (3, .int v3)] [] (hp s) := by
  refine e_iload_n dX4_coachOf_2 2 rfl rfl (pc2 := 3) rfl ?_
  refine e_aload_n dX4_coachOf_3 0 rfl rfl (pc2 := 4) rfl ?_
  refine e_getI fl_X4_71 dX4_coachOf_4 (okX4_o hv0) (by decide) (pc2 := 7) rfl ?_
  refine e_icmp_ge (tgt := 29) dX4_coachOf_7 (by decide) (pc2 := 10) rfl (fun c1 => ?_) (fun c1 => ?_)
  · have hf := if_t c1 hf
    refine e_iconst (x := (-1)) dX4_coachOf_29 (by decide) (pc2 := 30) rfl ?_
    cases hf
    exact e_iret rfl dX4_coachOf_30
  · have hf := if_f c1 hf
    refine e_aload_n dX4_coachOf_10 0 rfl rfl (pc2 := 11) rfl ?_
    refine e_getR (r := Rf v0 10) fl_X4_22 dX4_coachOf_11 (okX4_o hv0) (okX4_R hv0) (isA_ne (okX4_coachName hv0)) (pc2 := 14) rfl ?_
    refine e_iload_n dX4_coachOf_14 2 rfl rfl (pc2 := 15) rfl ?_
    obtain ⟨g2, hf⟩ := gd_some hf
    refine e_lald dX4_coachOf_15 (okX4_coachName hv0) (inb_v g2) (pc2 := 16) rfl ?_
    refine e_lload_n dX4_coachOf_16 1 rfl rfl (pc2 := 17) rfl ?_
    refine e_lcmp dX4_coachOf_17 (pc2 := 18) rfl ?_
    refine e_if_ne (tgt := 23) dX4_coachOf_18 (by decide) (pc2 := 21) rfl (fun c3 => ?_) (fun c3 => ?_)
    · have hf := if_f c3 hf
      obtain ⟨x4, ex4, hf⟩ := ltb_s hf
      refine e_iinc dX4_coachOf_23 2 rfl (c9 := 1) (by decide) ex4.symm (by decide) (ls' := [(0, .ref v0), (1, .long v1), (3, .int x4)]) [1, 2, 0] rfl (pc2 := 26) rfl ?_
      refine e_goto (tgt := 2) dX4_coachOf_26 (by decide) ?_
      exact hk2 x4 hf
    · have hf := if_t c3 hf
      refine e_iload_n dX4_coachOf_21 2 rfl rfl (pc2 := 22) rfl ?_
      cases hf
      exact e_iret rfl dX4_coachOf_22
def f_X4_coachOf_l2 (v0 : Nat) (v1 : Int64) (s : HS) : Nat → Int32 → Option Int32
  | 0, _ => none
  | n + 1, v3 => f_X4_coachOf_l2b v0 v1 v3 (f_X4_coachOf_l2 v0 v1 s n)  s
set_option maxRecDepth 20000 in
set_option maxHeartbeats 2000000 in
theorem t_X4_coachOf_l2 (v0 : Nat) (v1 : Int64) (hv0 : okX4 v0 = true) (s : HS) {x : Int32}  : ∀ (n : Nat) (v3 : Int32), f_X4_coachOf_l2 v0 v1 s n v3 = some x → Ev DDX4_coachOf miX4_coachOf NF (some (.int x)) NF (hp s) 2 NF [(0, .ref v0), (1, .long v1), (3, .int v3)] [] (hp s) := by
  intro n
  induction n with
  | zero =>
    intro v3 hf
    have hf : none = some x := hf
    cases hf
  | succ n ih =>
    intro v3 hf
    exact t_X4_coachOf_l2b v0 v1 v3 hv0 s _ ih  hf
def f_X4_coachOf (p : Nat) (v1 : Int64) (s : HS) : Option Int32 :=
  f_X4_coachOf_l2 p v1 s FU 0
set_option maxRecDepth 20000 in
set_option maxHeartbeats 2000000 in
theorem t_X4_coachOf (p : Nat) (hp_ : okX4 p = true) (v1 : Int64) (s : HS) {x : Int32} (hf : f_X4_coachOf p v1 s = some x) : Mt DDX4_coachOf miX4_coachOf [.ref p, .long v1] NF (hp s) (some (.int x)) NF (hp s) := by
  refine Mt.of (by decide +kernel) (Nat.le_refl _) (Nat.le_of_ble_eq_true rfl) ?_
  show Ev DDX4_coachOf miX4_coachOf NF (some (.int x)) NF (hp s) 0 NF [(0, .ref p), (1, .long v1)] [] (hp s)
  unfold f_X4_coachOf at hf
  refine e_iconst (x := 0) dX4_coachOf_0 (by decide) (pc2 := 1) rfl ?_
  refine e_istore_n dX4_coachOf_1 rfl (by decide) rfl (ls' := [(0, .ref p), (1, .long v1), (3, .int 0)]) [1, 2, 0] rfl (pc2 := 2) rfl ?_
  refine t_X4_coachOf_l2 p v1 hp_ s FU 0 hf
abbrev DDX4_farOf : Nat := 1
def f_X4_farOf (p : Nat) (v1 : Int32) (v2 : Int32) (s : HS) : Option Int32 :=
  gd (inb v1 6) (gd (inb (s.1 (Rf (Rf p 15) v1.toNatClampNeg) 2) 6) (some (iabs ((s.1 (Rf p 11) (s.1 (Rf (Rf p 15) v1.toNatClampNeg) 2).toNatClampNeg) - v2))))
set_option maxRecDepth 20000 in
set_option maxHeartbeats 2000000 in
theorem t_X4_farOf (p : Nat) (hp_ : okX4 p = true) (v1 : Int32) (v2 : Int32) (s : HS) {x : Int32} (hf : f_X4_farOf p v1 v2 s = some x) : Mt DDX4_farOf miX4_farOf [.ref p, .int v1, .int v2] NF (hp s) (some (.int x)) NF (hp s) := by
  refine Mt.of (by decide +kernel) (Nat.le_refl _) (Nat.le_of_ble_eq_true rfl) ?_
  show Ev DDX4_farOf miX4_farOf NF (some (.int x)) NF (hp s) 0 NF [(0, .ref p), (1, .int v1), (2, .int v2)] [] (hp s)
  unfold f_X4_farOf at hf
  refine e_aload_n dX4_farOf_0 0 rfl rfl (pc2 := 1) rfl ?_
  refine e_getR (r := Rf p 11) fl_X4_26 dX4_farOf_1 (okX4_o hp_) (okX4_R hp_) (isA_ne (okX4_yards hp_)) (pc2 := 4) rfl ?_
  refine e_aload_n dX4_farOf_4 0 rfl rfl (pc2 := 5) rfl ?_
  refine e_getR (r := Rf p 15) fl_X4_37 dX4_farOf_5 (okX4_o hp_) (okX4_R hp_) (isA_ne (okX4_buyer hp_)) (pc2 := 8) rfl ?_
  refine e_iload_n dX4_farOf_8 1 rfl rfl (pc2 := 9) rfl ?_
  obtain ⟨g1, hf⟩ := gd_some hf
  refine e_aald (r := Rf (Rf p 15) v1.toNatClampNeg) dX4_farOf_9 (okX4_buyer hp_) (by decide) (inb_v g1) (Rs_na (q := s.2.2) (okX4_buyer hp_) (by decide)) (okX0_ne (okX4_buyer_el hp_ (inb_v g1))) (pc2 := 10) rfl ?_
  refine e_getI fl_X4_85 dX4_farOf_10 (okX0_o (okX4_buyer_el hp_ (inb_v g1))) (by decide) (pc2 := 13) rfl ?_
  obtain ⟨g2, hf⟩ := gd_some hf
  refine e_iald dX4_farOf_13 (okX4_yards hp_) (inb_v g2) (pc2 := 14) rfl ?_
  refine e_iload_n dX4_farOf_14 2 rfl rfl (pc2 := 15) rfl ?_
  refine e_isub dX4_farOf_15 (pc2 := 16) rfl ?_
  refine e_mabs dX4_farOf_16 mm_X4_88 (by decide) nn0 (by first | exact Nat.le_of_ble_eq_true rfl | simp [rva_cat, vc_i, vc_r, vc_l, vc_n]) (pc2 := 19) rfl ?_
  cases hf
  exact e_iret rfl dX4_farOf_19
abbrev DDX4_wayOf : Nat := 2
def f_X4_wayOf (p : Nat) (v1 : Int32) (v2 : Int32) (s : HS) : Option Int32 :=
  bnd (f_X4_farOf p v1 v2 s) fun y1 => some ((y1 * (s.1 p 6)) / 10)
set_option maxRecDepth 20000 in
set_option maxHeartbeats 2000000 in
theorem t_X4_wayOf (p : Nat) (hp_ : okX4 p = true) (v1 : Int32) (v2 : Int32) (s : HS) {x : Int32} (hf : f_X4_wayOf p v1 v2 s = some x) : Mt DDX4_wayOf miX4_wayOf [.ref p, .int v1, .int v2] NF (hp s) (some (.int x)) NF (hp s) := by
  refine Mt.of (by decide +kernel) (Nat.le_refl _) (Nat.le_of_ble_eq_true rfl) ?_
  show Ev DDX4_wayOf miX4_wayOf NF (some (.int x)) NF (hp s) 0 NF [(0, .ref p), (1, .int v1), (2, .int v2)] [] (hp s)
  unfold f_X4_wayOf at hf
  refine e_aload_n dX4_wayOf_0 0 rfl rfl (pc2 := 1) rfl ?_
  refine e_iload_n dX4_wayOf_1 1 rfl rfl (pc2 := 2) rfl ?_
  refine e_iload_n dX4_wayOf_2 2 rfl rfl (pc2 := 3) rfl ?_
  obtain ⟨y1, hy1, hf⟩ := bnd_s hf
  refine e_callVs (t_X4_farOf p hp_ v1 v2 s hy1) dX4_wayOf_3 cv_X4_94 rfl (okX4_o hp_) rc_4 (by decide) (by first | exact Nat.le_of_ble_eq_true rfl | simp [rva_cat, vc_i, vc_r, vc_l, vc_n]) nn0 rfl (pc2 := 6) rfl ?_
  refine e_aload_n dX4_wayOf_6 0 rfl rfl (pc2 := 7) rfl ?_
  refine e_getI fl_X4_65 dX4_wayOf_7 (okX4_o hp_) (by decide) (pc2 := 10) rfl ?_
  refine e_imul dX4_wayOf_10 (pc2 := 11) rfl ?_
  refine e_bipush (x := 10) dX4_wayOf_11 (by decide) (pc2 := 13) rfl ?_
  refine e_idiv dX4_wayOf_13 (by decide) (pc2 := 14) rfl ?_
  cases hf
  exact e_iret rfl dX4_wayOf_14
abbrev DDX4_goesAt : Nat := 1
def f_X4_goesAt (p : Nat) (v1 : Int32) (v2 : Int32) (s : HS) : Int32 :=
  imax 0 (imin v2 ((s.1 p 0) - v1))
set_option maxRecDepth 20000 in
set_option maxHeartbeats 2000000 in
theorem t_X4_goesAt (p : Nat) (hp_ : okX4 p = true) (v1 : Int32) (v2 : Int32) (s : HS) {x : Int32} (hf : f_X4_goesAt p v1 v2 s = x) : Mt DDX4_goesAt miX4_goesAt [.ref p, .int v1, .int v2] NF (hp s) (some (.int x)) NF (hp s) := by
  refine Mt.of (by decide +kernel) (Nat.le_refl _) (Nat.le_of_ble_eq_true rfl) ?_
  show Ev DDX4_goesAt miX4_goesAt NF (some (.int x)) NF (hp s) 0 NF [(0, .ref p), (1, .int v1), (2, .int v2)] [] (hp s)
  unfold f_X4_goesAt at hf
  refine e_iconst (x := 0) dX4_goesAt_0 (by decide) (pc2 := 1) rfl ?_
  refine e_iload_n dX4_goesAt_1 2 rfl rfl (pc2 := 2) rfl ?_
  refine e_aload_n dX4_goesAt_2 0 rfl rfl (pc2 := 3) rfl ?_
  refine e_getI fl_X4_46 dX4_goesAt_3 (okX4_o hp_) (by decide) (pc2 := 6) rfl ?_
  refine e_iload_n dX4_goesAt_6 1 rfl rfl (pc2 := 7) rfl ?_
  refine e_isub dX4_goesAt_7 (pc2 := 8) rfl ?_
  refine e_mmin dX4_goesAt_8 mm_X4_98 (by decide) nn0 (by first | exact Nat.le_of_ble_eq_true rfl | simp [rva_cat, vc_i, vc_r, vc_l, vc_n]) (pc2 := 11) rfl ?_
  refine e_mmax dX4_goesAt_11 mm_X4_101 (by decide) nn0 (by first | exact Nat.le_of_ble_eq_true rfl | simp [rva_cat, vc_i, vc_r, vc_l, vc_n]) (pc2 := 14) rfl ?_
  cases hf
  exact e_iret rfl dX4_goesAt_14
abbrev DDX4_secsFor : Nat := 1
def f_X4_secsFor_l4b (v0 : Nat) (v1 : Int32) (v2 : Int32) (v3 : Int32) (k4 : Int32 → Int32 → Option Int32) (s : HS) : Option Int32 :=
  gd (inb v1 6) ((if (s.1 (Rf (Rf v0 15) v1.toNatClampNeg) 6) ≤ v3 then some v2 else gd (inb v1 6) (gd (inb v3 3) (gd (inb (s.1 (Rf (Rf (Rf v0 15) v1.toNatClampNeg) 5) v3.toNatClampNeg) 5) (ltb (v2 + (s.1 (Rf (Rf v0 13) (s.1 (Rf (Rf (Rf v0 15) v1.toNatClampNeg) 5) v3.toNatClampNeg).toNatClampNeg) 2)) fun x6 => ltb (v3 + 1) fun x7 => k4 x6 x7)))))
set_option maxRecDepth 20000 in
set_option maxHeartbeats 2000000 in
theorem t_X4_secsFor_l4b (v0 : Nat) (v1 : Int32) (v2 : Int32) (v3 : Int32) (hv0 : okX4 v0 = true) (s : HS) {x : Int32} (k4 : Int32 → Int32 → Option Int32) (hk4 : ∀ (a2 : Int32) (a3 : Int32), k4 a2 a3 = some x → Ev DDX4_secsFor miX4_secsFor NF (some (.int x)) NF (hp s) 4 NF [(0, .ref v0), (1, .int v1), (2, .int a2), (3, .int a3)] [] (hp s)) (hf : f_X4_secsFor_l4b v0 v1 v2 v3 k4 s = some x) : Ev DDX4_secsFor miX4_secsFor NF (some (.int x)) NF (hp s) 4 NF [(0, .ref v0), (1, .int v1), (2, .int v2), (3, .int v3)] [] (hp s) := by
  refine e_iload_n dX4_secsFor_4 3 rfl rfl (pc2 := 5) rfl ?_
  refine e_aload_n dX4_secsFor_5 0 rfl rfl (pc2 := 6) rfl ?_
  refine e_getR (r := Rf v0 15) fl_X4_37 dX4_secsFor_6 (okX4_o hv0) (okX4_R hv0) (isA_ne (okX4_buyer hv0)) (pc2 := 9) rfl ?_
  refine e_iload_n dX4_secsFor_9 1 rfl rfl (pc2 := 10) rfl ?_
  obtain ⟨g1, hf⟩ := gd_some hf
  refine e_aald (r := Rf (Rf v0 15) v1.toNatClampNeg) dX4_secsFor_10 (okX4_buyer hv0) (by decide) (inb_v g1) (Rs_na (q := s.2.2) (okX4_buyer hv0) (by decide)) (okX0_ne (okX4_buyer_el hv0 (inb_v g1))) (pc2 := 11) rfl ?_
  refine e_getI fl_X4_104 dX4_secsFor_11 (okX0_o (okX4_buyer_el hv0 (inb_v g1))) (by decide) (pc2 := 14) rfl ?_
  refine e_icmp_ge (tgt := 45) dX4_secsFor_14 (by decide) (pc2 := 17) rfl (fun c2 => ?_) (fun c2 => ?_)
  · have hf := if_t c2 hf
    refine e_iload_n dX4_secsFor_45 2 rfl rfl (pc2 := 46) rfl ?_
    cases hf
    exact e_iret rfl dX4_secsFor_46
  · have hf := if_f c2 hf
    refine e_iload_n dX4_secsFor_17 2 rfl rfl (pc2 := 18) rfl ?_
    refine e_aload_n dX4_secsFor_18 0 rfl rfl (pc2 := 19) rfl ?_
    refine e_getR (r := Rf v0 13) fl_X4_31 dX4_secsFor_19 (okX4_o hv0) (okX4_R hv0) (isA_ne (okX4_thing hv0)) (pc2 := 22) rfl ?_
    refine e_aload_n dX4_secsFor_22 0 rfl rfl (pc2 := 23) rfl ?_
    refine e_getR (r := Rf v0 15) fl_X4_37 dX4_secsFor_23 (okX4_o hv0) (okX4_R hv0) (isA_ne (okX4_buyer hv0)) (pc2 := 26) rfl ?_
    refine e_iload_n dX4_secsFor_26 1 rfl rfl (pc2 := 27) rfl ?_
    obtain ⟨g3, hf⟩ := gd_some hf
    refine e_aald (r := Rf (Rf v0 15) v1.toNatClampNeg) dX4_secsFor_27 (okX4_buyer hv0) (by decide) (inb_v g3) (Rs_na (q := s.2.2) (okX4_buyer hv0) (by decide)) (okX0_ne (okX4_buyer_el hv0 (inb_v g3))) (pc2 := 28) rfl ?_
    refine e_getR (r := Rf (Rf (Rf v0 15) v1.toNatClampNeg) 5) fl_X4_107 dX4_secsFor_28 (okX0_o (okX4_buyer_el hv0 (inb_v g3))) (okX0_R (okX4_buyer_el hv0 (inb_v g3))) (isA_ne (okX0_wants (okX4_buyer_el hv0 (inb_v g3)))) (pc2 := 31) rfl ?_
    refine e_iload_n dX4_secsFor_31 3 rfl rfl (pc2 := 32) rfl ?_
    obtain ⟨g4, hf⟩ := gd_some hf
    refine e_iald dX4_secsFor_32 (okX0_wants (okX4_buyer_el hv0 (inb_v g3))) (inb_v g4) (pc2 := 33) rfl ?_
    obtain ⟨g5, hf⟩ := gd_some hf
    refine e_aald (r := Rf (Rf v0 13) (s.1 (Rf (Rf (Rf v0 15) v1.toNatClampNeg) 5) v3.toNatClampNeg).toNatClampNeg) dX4_secsFor_33 (okX4_thing hv0) (by decide) (inb_v g5) (Rs_na (q := s.2.2) (okX4_thing hv0) (by decide)) (okX9_ne (okX4_thing_el hv0 (inb_v g5))) (pc2 := 34) rfl ?_
    refine e_getI fl_X4_110 dX4_secsFor_34 (okX9_o (okX4_thing_el hv0 (inb_v g5))) (by decide) (pc2 := 37) rfl ?_
    refine e_iadd dX4_secsFor_37 (pc2 := 38) rfl ?_
    obtain ⟨x6, ex6, hf⟩ := ltb_s hf
    refine e_istore_n dX4_secsFor_38 rfl (by decide) ex6.symm (ls' := [(0, .ref v0), (1, .int v1), (2, .int x6), (3, .int v3)]) [1, 2, 0, 3] rfl (pc2 := 39) rfl ?_
    obtain ⟨x7, ex7, hf⟩ := ltb_s hf
    refine e_iinc dX4_secsFor_39 3 rfl (c9 := 1) (by decide) ex7.symm (by decide) (ls' := [(0, .ref v0), (1, .int v1), (2, .int x6), (3, .int x7)]) [1, 2, 3, 0] rfl (pc2 := 42) rfl ?_
    refine e_goto (tgt := 4) dX4_secsFor_42 (by decide) ?_
    exact hk4 x6 x7 hf
def f_X4_secsFor_l4 (v0 : Nat) (v1 : Int32) (s : HS) : Nat → Int32 → Int32 → Option Int32
  | 0, _, _ => none
  | n + 1, v2, v3 => f_X4_secsFor_l4b v0 v1 v2 v3 (f_X4_secsFor_l4 v0 v1 s n)  s
set_option maxRecDepth 20000 in
set_option maxHeartbeats 2000000 in
theorem t_X4_secsFor_l4 (v0 : Nat) (v1 : Int32) (hv0 : okX4 v0 = true) (s : HS) {x : Int32}  : ∀ (n : Nat) (v2 : Int32) (v3 : Int32), f_X4_secsFor_l4 v0 v1 s n v2 v3 = some x → Ev DDX4_secsFor miX4_secsFor NF (some (.int x)) NF (hp s) 4 NF [(0, .ref v0), (1, .int v1), (2, .int v2), (3, .int v3)] [] (hp s) := by
  intro n
  induction n with
  | zero =>
    intro v2 v3 hf
    have hf : none = some x := hf
    cases hf
  | succ n ih =>
    intro v2 v3 hf
    exact t_X4_secsFor_l4b v0 v1 v2 v3 hv0 s _ ih  hf
def f_X4_secsFor (p : Nat) (v1 : Int32) (s : HS) : Option Int32 :=
  f_X4_secsFor_l4 p v1 s FU 0 0
set_option maxRecDepth 20000 in
set_option maxHeartbeats 2000000 in
theorem t_X4_secsFor (p : Nat) (hp_ : okX4 p = true) (v1 : Int32) (s : HS) {x : Int32} (hf : f_X4_secsFor p v1 s = some x) : Mt DDX4_secsFor miX4_secsFor [.ref p, .int v1] NF (hp s) (some (.int x)) NF (hp s) := by
  refine Mt.of (by decide +kernel) (Nat.le_refl _) (Nat.le_of_ble_eq_true rfl) ?_
  show Ev DDX4_secsFor miX4_secsFor NF (some (.int x)) NF (hp s) 0 NF [(0, .ref p), (1, .int v1)] [] (hp s)
  unfold f_X4_secsFor at hf
  refine e_iconst (x := 0) dX4_secsFor_0 (by decide) (pc2 := 1) rfl ?_
  refine e_istore_n dX4_secsFor_1 rfl (by decide) rfl (ls' := [(0, .ref p), (1, .int v1), (2, .int 0)]) [1, 2, 0] rfl (pc2 := 2) rfl ?_
  refine e_iconst (x := 0) dX4_secsFor_2 (by decide) (pc2 := 3) rfl ?_
  refine e_istore_n dX4_secsFor_3 rfl (by decide) rfl (ls' := [(0, .ref p), (1, .int v1), (2, .int 0), (3, .int 0)]) [1, 2, 3, 0] rfl (pc2 := 4) rfl ?_
  refine t_X4_secsFor_l4 p v1 hp_ s FU 0 0 hf
abbrev DDX4_priceFor : Nat := 1
def f_X4_priceFor_l4b (v0 : Nat) (v1 : Int32) (v2 : Int32) (v3 : Int32) (k4 : Int32 → Int32 → Option Int32) (s : HS) : Option Int32 :=
  gd (inb v1 6) ((if (s.1 (Rf (Rf v0 15) v1.toNatClampNeg) 6) ≤ v3 then some v2 else gd (inb v1 6) (gd (inb v3 3) (gd (inb (s.1 (Rf (Rf (Rf v0 15) v1.toNatClampNeg) 5) v3.toNatClampNeg) 5) (ltb (v2 + (s.1 (Rf (Rf v0 13) (s.1 (Rf (Rf (Rf v0 15) v1.toNatClampNeg) 5) v3.toNatClampNeg).toNatClampNeg) 3)) fun x6 => ltb (v3 + 1) fun x7 => k4 x6 x7)))))
set_option maxRecDepth 20000 in
set_option maxHeartbeats 2000000 in
theorem t_X4_priceFor_l4b (v0 : Nat) (v1 : Int32) (v2 : Int32) (v3 : Int32) (hv0 : okX4 v0 = true) (s : HS) {x : Int32} (k4 : Int32 → Int32 → Option Int32) (hk4 : ∀ (a2 : Int32) (a3 : Int32), k4 a2 a3 = some x → Ev DDX4_priceFor miX4_priceFor NF (some (.int x)) NF (hp s) 4 NF [(0, .ref v0), (1, .int v1), (2, .int a2), (3, .int a3)] [] (hp s)) (hf : f_X4_priceFor_l4b v0 v1 v2 v3 k4 s = some x) : Ev DDX4_priceFor miX4_priceFor NF (some (.int x)) NF (hp s) 4 NF [(0, .ref v0), (1, .int v1), (2, .int v2), (3, .int v3)] [] (hp s) := by
  refine e_iload_n dX4_priceFor_4 3 rfl rfl (pc2 := 5) rfl ?_
  refine e_aload_n dX4_priceFor_5 0 rfl rfl (pc2 := 6) rfl ?_
  refine e_getR (r := Rf v0 15) fl_X4_37 dX4_priceFor_6 (okX4_o hv0) (okX4_R hv0) (isA_ne (okX4_buyer hv0)) (pc2 := 9) rfl ?_
  refine e_iload_n dX4_priceFor_9 1 rfl rfl (pc2 := 10) rfl ?_
  obtain ⟨g1, hf⟩ := gd_some hf
  refine e_aald (r := Rf (Rf v0 15) v1.toNatClampNeg) dX4_priceFor_10 (okX4_buyer hv0) (by decide) (inb_v g1) (Rs_na (q := s.2.2) (okX4_buyer hv0) (by decide)) (okX0_ne (okX4_buyer_el hv0 (inb_v g1))) (pc2 := 11) rfl ?_
  refine e_getI fl_X4_104 dX4_priceFor_11 (okX0_o (okX4_buyer_el hv0 (inb_v g1))) (by decide) (pc2 := 14) rfl ?_
  refine e_icmp_ge (tgt := 45) dX4_priceFor_14 (by decide) (pc2 := 17) rfl (fun c2 => ?_) (fun c2 => ?_)
  · have hf := if_t c2 hf
    refine e_iload_n dX4_priceFor_45 2 rfl rfl (pc2 := 46) rfl ?_
    cases hf
    exact e_iret rfl dX4_priceFor_46
  · have hf := if_f c2 hf
    refine e_iload_n dX4_priceFor_17 2 rfl rfl (pc2 := 18) rfl ?_
    refine e_aload_n dX4_priceFor_18 0 rfl rfl (pc2 := 19) rfl ?_
    refine e_getR (r := Rf v0 13) fl_X4_31 dX4_priceFor_19 (okX4_o hv0) (okX4_R hv0) (isA_ne (okX4_thing hv0)) (pc2 := 22) rfl ?_
    refine e_aload_n dX4_priceFor_22 0 rfl rfl (pc2 := 23) rfl ?_
    refine e_getR (r := Rf v0 15) fl_X4_37 dX4_priceFor_23 (okX4_o hv0) (okX4_R hv0) (isA_ne (okX4_buyer hv0)) (pc2 := 26) rfl ?_
    refine e_iload_n dX4_priceFor_26 1 rfl rfl (pc2 := 27) rfl ?_
    obtain ⟨g3, hf⟩ := gd_some hf
    refine e_aald (r := Rf (Rf v0 15) v1.toNatClampNeg) dX4_priceFor_27 (okX4_buyer hv0) (by decide) (inb_v g3) (Rs_na (q := s.2.2) (okX4_buyer hv0) (by decide)) (okX0_ne (okX4_buyer_el hv0 (inb_v g3))) (pc2 := 28) rfl ?_
    refine e_getR (r := Rf (Rf (Rf v0 15) v1.toNatClampNeg) 5) fl_X4_107 dX4_priceFor_28 (okX0_o (okX4_buyer_el hv0 (inb_v g3))) (okX0_R (okX4_buyer_el hv0 (inb_v g3))) (isA_ne (okX0_wants (okX4_buyer_el hv0 (inb_v g3)))) (pc2 := 31) rfl ?_
    refine e_iload_n dX4_priceFor_31 3 rfl rfl (pc2 := 32) rfl ?_
    obtain ⟨g4, hf⟩ := gd_some hf
    refine e_iald dX4_priceFor_32 (okX0_wants (okX4_buyer_el hv0 (inb_v g3))) (inb_v g4) (pc2 := 33) rfl ?_
    obtain ⟨g5, hf⟩ := gd_some hf
    refine e_aald (r := Rf (Rf v0 13) (s.1 (Rf (Rf (Rf v0 15) v1.toNatClampNeg) 5) v3.toNatClampNeg).toNatClampNeg) dX4_priceFor_33 (okX4_thing hv0) (by decide) (inb_v g5) (Rs_na (q := s.2.2) (okX4_thing hv0) (by decide)) (okX9_ne (okX4_thing_el hv0 (inb_v g5))) (pc2 := 34) rfl ?_
    refine e_getI fl_X4_113 dX4_priceFor_34 (okX9_o (okX4_thing_el hv0 (inb_v g5))) (by decide) (pc2 := 37) rfl ?_
    refine e_iadd dX4_priceFor_37 (pc2 := 38) rfl ?_
    obtain ⟨x6, ex6, hf⟩ := ltb_s hf
    refine e_istore_n dX4_priceFor_38 rfl (by decide) ex6.symm (ls' := [(0, .ref v0), (1, .int v1), (2, .int x6), (3, .int v3)]) [1, 2, 0, 3] rfl (pc2 := 39) rfl ?_
    obtain ⟨x7, ex7, hf⟩ := ltb_s hf
    refine e_iinc dX4_priceFor_39 3 rfl (c9 := 1) (by decide) ex7.symm (by decide) (ls' := [(0, .ref v0), (1, .int v1), (2, .int x6), (3, .int x7)]) [1, 2, 3, 0] rfl (pc2 := 42) rfl ?_
    refine e_goto (tgt := 4) dX4_priceFor_42 (by decide) ?_
    exact hk4 x6 x7 hf
def f_X4_priceFor_l4 (v0 : Nat) (v1 : Int32) (s : HS) : Nat → Int32 → Int32 → Option Int32
  | 0, _, _ => none
  | n + 1, v2, v3 => f_X4_priceFor_l4b v0 v1 v2 v3 (f_X4_priceFor_l4 v0 v1 s n)  s
set_option maxRecDepth 20000 in
set_option maxHeartbeats 2000000 in
theorem t_X4_priceFor_l4 (v0 : Nat) (v1 : Int32) (hv0 : okX4 v0 = true) (s : HS) {x : Int32}  : ∀ (n : Nat) (v2 : Int32) (v3 : Int32), f_X4_priceFor_l4 v0 v1 s n v2 v3 = some x → Ev DDX4_priceFor miX4_priceFor NF (some (.int x)) NF (hp s) 4 NF [(0, .ref v0), (1, .int v1), (2, .int v2), (3, .int v3)] [] (hp s) := by
  intro n
  induction n with
  | zero =>
    intro v2 v3 hf
    have hf : none = some x := hf
    cases hf
  | succ n ih =>
    intro v2 v3 hf
    exact t_X4_priceFor_l4b v0 v1 v2 v3 hv0 s _ ih  hf
def f_X4_priceFor (p : Nat) (v1 : Int32) (s : HS) : Option Int32 :=
  f_X4_priceFor_l4 p v1 s FU 0 0
set_option maxRecDepth 20000 in
set_option maxHeartbeats 2000000 in
theorem t_X4_priceFor (p : Nat) (hp_ : okX4 p = true) (v1 : Int32) (s : HS) {x : Int32} (hf : f_X4_priceFor p v1 s = some x) : Mt DDX4_priceFor miX4_priceFor [.ref p, .int v1] NF (hp s) (some (.int x)) NF (hp s) := by
  refine Mt.of (by decide +kernel) (Nat.le_refl _) (Nat.le_of_ble_eq_true rfl) ?_
  show Ev DDX4_priceFor miX4_priceFor NF (some (.int x)) NF (hp s) 0 NF [(0, .ref p), (1, .int v1)] [] (hp s)
  unfold f_X4_priceFor at hf
  refine e_iconst (x := 0) dX4_priceFor_0 (by decide) (pc2 := 1) rfl ?_
  refine e_istore_n dX4_priceFor_1 rfl (by decide) rfl (ls' := [(0, .ref p), (1, .int v1), (2, .int 0)]) [1, 2, 0] rfl (pc2 := 2) rfl ?_
  refine e_iconst (x := 0) dX4_priceFor_2 (by decide) (pc2 := 3) rfl ?_
  refine e_istore_n dX4_priceFor_3 rfl (by decide) rfl (ls' := [(0, .ref p), (1, .int v1), (2, .int 0), (3, .int 0)]) [1, 2, 3, 0] rfl (pc2 := 4) rfl ?_
  refine t_X4_priceFor_l4 p v1 hp_ s FU 0 0 hf
abbrev DDX8_take : Nat := 6
def f_X8_take (v1 : Nat) (s : HS) : Option HS :=
  gd (wob (s.2.2.2.2.2.2)) ((if (s.2.2.2.2.2.2) = v1 then bnd (f_X8_step s) fun s6 => some s6 else bnd (f_X8_fail 1 s) fun s4 => some s4))
set_option maxRecDepth 20000 in
set_option maxHeartbeats 2000000 in
theorem t_X8_take (v1 : Nat) (hv1 : wob v1 = true) (s : HS) {t : HS} (hf : f_X8_take v1 s = some t) : Mt DDX8_take miX8_take [.ref 36, rva v1] NF (hp s) none NF (hp t) := by
  refine Mt.of (by decide +kernel) (Nat.le_refl _) (by simp [lg_sl, rva_cat, vc_i, vc_r, vc_l, vc_n]) ?_
  rw [show lv_args 0 [.ref 36, rva v1] = [(0, .ref 36), (1, rva v1)] by simp [lv_args, rva_cat, vc_i, vc_r, vc_l, vc_n]]
  show Ev DDX8_take miX8_take NF none NF (hp t) 0 NF [(0, .ref 36), (1, rva v1)] [] (hp s)
  unfold f_X8_take at hf
  refine e_aload_n dX8_take_0 0 rfl rfl (pc2 := 1) rfl ?_
  obtain ⟨g1, hf⟩ := gd_some hf
  refine e_getQ (w := s.2.2.2.2.2.2) fl_X8_36 dX8_take_1 so_36 rfl (pc2 := 4) rfl ?_
  refine e_aload_nQ (w := v1) dX8_take_4 1 rfl rfl (pc2 := 5) rfl ?_
  refine e_acmp_ne (tgt := 15) dX8_take_5 (by decide) (w1 := s.2.2.2.2.2.2) (w2 := v1) g1 hv1 (pc2 := 8) rfl (fun c2 => ?_) (fun c2 => ?_)
  · have hf := if_f c2 hf
    refine e_aload_n dX8_take_15 0 rfl rfl (pc2 := 16) rfl ?_
    refine e_iconst (x := 1) dX8_take_16 (by decide) (pc2 := 17) rfl ?_
    obtain ⟨s4, hy3, hf⟩ := bnd_s hf
    refine e_callVn (t_X8_fail 1 s hy3) dX8_take_17 cv_X8_77 rfl so_36 rc_8 (by decide) (by first | exact Nat.le_of_ble_eq_true rfl | simp [rva_cat, vc_i, vc_r, vc_l, vc_n]) nn0 rfl (pc2 := 20) rfl ?_
    cases hf
    exact e_vret rfl dX8_take_20
  · have hf := if_t c2 hf
    refine e_aload_n dX8_take_8 0 rfl rfl (pc2 := 9) rfl ?_
    obtain ⟨s6, hy5, hf⟩ := bnd_s hf
    refine e_callVn (t_X8_step  s hy5) dX8_take_9 cv_X8_27 rfl so_36 rc_8 (by decide) (by first | exact Nat.le_of_ble_eq_true rfl | simp [rva_cat, vc_i, vc_r, vc_l, vc_n]) nn0 rfl (pc2 := 12) rfl ?_
    refine e_goto (tgt := 20) dX8_take_12 (by decide) ?_
    cases hf
    exact e_vret rfl dX8_take_20
abbrev DDX5_readOnce : Nat := 7
def f_X5_readOnce (v1 : Nat) (v2 : Nat) (s : HS) : Option HS :=
  (if v2 = 1000 then bnd2 (f_X8_takeNumber 60 900 s) fun y21 s22 => ltb (sI s22 v1 0 y21) fun s23 => bnd (f_X8_take 1001 s23) fun s25 => bnd2 (f_X8_takeNumber 1 (s25.1 v1 0) s25) fun y26 s27 => ltb (sI s27 v1 1 y26) fun s28 => some s28 else (if v2 = 1013 then bnd2 (f_X8_takeNumber 1 2 s) fun y18 s19 => ltb (sI s19 v1 2 y18) fun s20 => some s20 else (if v2 = 1014 then bnd2 (f_X8_takeNumber 0 60 s) fun y15 s16 => ltb (sI s16 v1 3 y15) fun s17 => some s17 else (if v2 = 1015 then bnd2 (f_X8_takeNumber 0 99 s) fun y12 s13 => ltb (sI s13 v1 4 y12) fun s14 => some s14 else (if v2 = 1016 then bnd2 (f_X8_takeNumber 1 120 s) fun y9 s10 => ltb (sI s10 v1 5 y9) fun s11 => some s11 else bnd2 (f_X8_takeNumber 1 30 s) fun y6 s7 => ltb (sI s7 v1 6 y6) fun s8 => some s8)))))
set_option maxRecDepth 20000 in
set_option maxHeartbeats 2000000 in
theorem t_X5_readOnce (v1 : Nat) (hv1 : okX4 v1 = true) (v2 : Nat) (hv2 : wob v2 = true) (s : HS) {t : HS} (hf : f_X5_readOnce v1 v2 s = some t) : Mt DDX5_readOnce miX5_readOnce [.ref 69, .ref v1, rva v2] NF (hp s) none NF (hp t) := by
  refine Mt.of (by decide +kernel) (Nat.le_refl _) (by simp [lg_sl, rva_cat, vc_i, vc_r, vc_l, vc_n]) ?_
  rw [show lv_args 0 [.ref 69, .ref v1, rva v2] = [(0, .ref 69), (1, .ref v1), (2, rva v2)] by simp [lv_args, rva_cat, vc_i, vc_r, vc_l, vc_n]]
  show Ev DDX5_readOnce miX5_readOnce NF none NF (hp t) 0 NF [(0, .ref 69), (1, .ref v1), (2, rva v2)] [] (hp s)
  unfold f_X5_readOnce at hf
  refine e_aload_nQ (w := v2) dX5_readOnce_0 2 rfl rfl (pc2 := 1) rfl ?_
  refine e_getsE (i := 0) (by decide) dX5_readOnce_1 gs_X5_109 (pc2 := 4) rfl ?_
  refine e_acmp_ne (tgt := 52) dX5_readOnce_4 (by decide) (w1 := v2) (w2 := 1000) hv2 (by decide) (pc2 := 7) rfl (fun c1 => ?_) (fun c1 => ?_)
  · have hf := if_f c1 hf
    refine e_aload_nQ (w := v2) dX5_readOnce_52 2 rfl rfl (pc2 := 53) rfl ?_
    refine e_getsE (i := 13) (by decide) dX5_readOnce_53 gs_X5_129 (pc2 := 56) rfl ?_
    refine e_acmp_ne (tgt := 75) dX5_readOnce_56 (by decide) (w1 := v2) (w2 := 1013) hv2 (by decide) (pc2 := 59) rfl (fun c2 => ?_) (fun c2 => ?_)
    · have hf := if_f c2 hf
      refine e_aload_nQ (w := v2) dX5_readOnce_75 2 rfl rfl (pc2 := 76) rfl ?_
      refine e_getsE (i := 14) (by decide) dX5_readOnce_76 gs_X5_135 (pc2 := 79) rfl ?_
      refine e_acmp_ne (tgt := 99) dX5_readOnce_79 (by decide) (w1 := v2) (w2 := 1014) hv2 (by decide) (pc2 := 82) rfl (fun c3 => ?_) (fun c3 => ?_)
      · have hf := if_f c3 hf
        refine e_aload_nQ (w := v2) dX5_readOnce_99 2 rfl rfl (pc2 := 100) rfl ?_
        refine e_getsE (i := 15) (by decide) dX5_readOnce_100 gs_X5_141 (pc2 := 103) rfl ?_
        refine e_acmp_ne (tgt := 123) dX5_readOnce_103 (by decide) (w1 := v2) (w2 := 1015) hv2 (by decide) (pc2 := 106) rfl (fun c4 => ?_) (fun c4 => ?_)
        · have hf := if_f c4 hf
          refine e_aload_nQ (w := v2) dX5_readOnce_123 2 rfl rfl (pc2 := 124) rfl ?_
          refine e_getsE (i := 16) (by decide) dX5_readOnce_124 gs_X5_147 (pc2 := 127) rfl ?_
          refine e_acmp_ne (tgt := 147) dX5_readOnce_127 (by decide) (w1 := v2) (w2 := 1016) hv2 (by decide) (pc2 := 130) rfl (fun c5 => ?_) (fun c5 => ?_)
          · have hf := if_f c5 hf
            refine e_aload_n dX5_readOnce_147 1 rfl rfl (pc2 := 148) rfl ?_
            refine e_aload_n dX5_readOnce_148 0 rfl rfl (pc2 := 149) rfl ?_
            refine e_getR (r := 36) fl_X5_9 dX5_readOnce_149 so_69 (rs_69_0 s.2.2) (by decide) (pc2 := 152) rfl ?_
            refine e_iconst (x := 1) dX5_readOnce_152 (by decide) (pc2 := 153) rfl ?_
            refine e_bipush (x := 30) dX5_readOnce_153 (by decide) (pc2 := 155) rfl ?_
            obtain ⟨y6, s7, hy6, hf⟩ := bnd2_s hf
            refine e_callVs (t_X8_takeNumber 1 30 s hy6) dX5_readOnce_155 cv_X5_112 rfl so_36 rc_8 (by decide) (by first | exact Nat.le_of_ble_eq_true rfl | simp [rva_cat, vc_i, vc_r, vc_l, vc_n]) nn0 rfl (pc2 := 158) rfl ?_
            obtain ⟨s8, es8, hf⟩ := ltb_s hf
            refine e_putI fl_X5_153 dX5_readOnce_158 (okX4_o hv1) fn_4_6 (h2 := hp s8) (by rw [es8]; rfl) (pc2 := 161) rfl ?_
            cases hf
            exact e_vret rfl dX5_readOnce_161
          · have hf := if_t c5 hf
            refine e_aload_n dX5_readOnce_130 1 rfl rfl (pc2 := 131) rfl ?_
            refine e_aload_n dX5_readOnce_131 0 rfl rfl (pc2 := 132) rfl ?_
            refine e_getR (r := 36) fl_X5_9 dX5_readOnce_132 so_69 (rs_69_0 s.2.2) (by decide) (pc2 := 135) rfl ?_
            refine e_iconst (x := 1) dX5_readOnce_135 (by decide) (pc2 := 136) rfl ?_
            refine e_bipush (x := 120) dX5_readOnce_136 (by decide) (pc2 := 138) rfl ?_
            obtain ⟨y9, s10, hy9, hf⟩ := bnd2_s hf
            refine e_callVs (t_X8_takeNumber 1 120 s hy9) dX5_readOnce_138 cv_X5_112 rfl so_36 rc_8 (by decide) (by first | exact Nat.le_of_ble_eq_true rfl | simp [rva_cat, vc_i, vc_r, vc_l, vc_n]) nn0 rfl (pc2 := 141) rfl ?_
            obtain ⟨s11, es11, hf⟩ := ltb_s hf
            refine e_putI fl_X5_150 dX5_readOnce_141 (okX4_o hv1) fn_4_5 (h2 := hp s11) (by rw [es11]; rfl) (pc2 := 144) rfl ?_
            refine e_goto (tgt := 161) dX5_readOnce_144 (by decide) ?_
            cases hf
            exact e_vret rfl dX5_readOnce_161
        · have hf := if_t c4 hf
          refine e_aload_n dX5_readOnce_106 1 rfl rfl (pc2 := 107) rfl ?_
          refine e_aload_n dX5_readOnce_107 0 rfl rfl (pc2 := 108) rfl ?_
          refine e_getR (r := 36) fl_X5_9 dX5_readOnce_108 so_69 (rs_69_0 s.2.2) (by decide) (pc2 := 111) rfl ?_
          refine e_iconst (x := 0) dX5_readOnce_111 (by decide) (pc2 := 112) rfl ?_
          refine e_bipush (x := 99) dX5_readOnce_112 (by decide) (pc2 := 114) rfl ?_
          obtain ⟨y12, s13, hy12, hf⟩ := bnd2_s hf
          refine e_callVs (t_X8_takeNumber 0 99 s hy12) dX5_readOnce_114 cv_X5_112 rfl so_36 rc_8 (by decide) (by first | exact Nat.le_of_ble_eq_true rfl | simp [rva_cat, vc_i, vc_r, vc_l, vc_n]) nn0 rfl (pc2 := 117) rfl ?_
          obtain ⟨s14, es14, hf⟩ := ltb_s hf
          refine e_putI fl_X5_144 dX5_readOnce_117 (okX4_o hv1) fn_4_4 (h2 := hp s14) (by rw [es14]; rfl) (pc2 := 120) rfl ?_
          refine e_goto (tgt := 161) dX5_readOnce_120 (by decide) ?_
          cases hf
          exact e_vret rfl dX5_readOnce_161
      · have hf := if_t c3 hf
        refine e_aload_n dX5_readOnce_82 1 rfl rfl (pc2 := 83) rfl ?_
        refine e_aload_n dX5_readOnce_83 0 rfl rfl (pc2 := 84) rfl ?_
        refine e_getR (r := 36) fl_X5_9 dX5_readOnce_84 so_69 (rs_69_0 s.2.2) (by decide) (pc2 := 87) rfl ?_
        refine e_iconst (x := 0) dX5_readOnce_87 (by decide) (pc2 := 88) rfl ?_
        refine e_bipush (x := 60) dX5_readOnce_88 (by decide) (pc2 := 90) rfl ?_
        obtain ⟨y15, s16, hy15, hf⟩ := bnd2_s hf
        refine e_callVs (t_X8_takeNumber 0 60 s hy15) dX5_readOnce_90 cv_X5_112 rfl so_36 rc_8 (by decide) (by first | exact Nat.le_of_ble_eq_true rfl | simp [rva_cat, vc_i, vc_r, vc_l, vc_n]) nn0 rfl (pc2 := 93) rfl ?_
        obtain ⟨s17, es17, hf⟩ := ltb_s hf
        refine e_putI fl_X5_138 dX5_readOnce_93 (okX4_o hv1) fn_4_3 (h2 := hp s17) (by rw [es17]; rfl) (pc2 := 96) rfl ?_
        refine e_goto (tgt := 161) dX5_readOnce_96 (by decide) ?_
        cases hf
        exact e_vret rfl dX5_readOnce_161
    · have hf := if_t c2 hf
      refine e_aload_n dX5_readOnce_59 1 rfl rfl (pc2 := 60) rfl ?_
      refine e_aload_n dX5_readOnce_60 0 rfl rfl (pc2 := 61) rfl ?_
      refine e_getR (r := 36) fl_X5_9 dX5_readOnce_61 so_69 (rs_69_0 s.2.2) (by decide) (pc2 := 64) rfl ?_
      refine e_iconst (x := 1) dX5_readOnce_64 (by decide) (pc2 := 65) rfl ?_
      refine e_iconst (x := 2) dX5_readOnce_65 (by decide) (pc2 := 66) rfl ?_
      obtain ⟨y18, s19, hy18, hf⟩ := bnd2_s hf
      refine e_callVs (t_X8_takeNumber 1 2 s hy18) dX5_readOnce_66 cv_X5_112 rfl so_36 rc_8 (by decide) (by first | exact Nat.le_of_ble_eq_true rfl | simp [rva_cat, vc_i, vc_r, vc_l, vc_n]) nn0 rfl (pc2 := 69) rfl ?_
      obtain ⟨s20, es20, hf⟩ := ltb_s hf
      refine e_putI fl_X5_132 dX5_readOnce_69 (okX4_o hv1) fn_4_2 (h2 := hp s20) (by rw [es20]; rfl) (pc2 := 72) rfl ?_
      refine e_goto (tgt := 161) dX5_readOnce_72 (by decide) ?_
      cases hf
      exact e_vret rfl dX5_readOnce_161
  · have hf := if_t c1 hf
    refine e_aload_n dX5_readOnce_7 1 rfl rfl (pc2 := 8) rfl ?_
    refine e_aload_n dX5_readOnce_8 0 rfl rfl (pc2 := 9) rfl ?_
    refine e_getR (r := 36) fl_X5_9 dX5_readOnce_9 so_69 (rs_69_0 s.2.2) (by decide) (pc2 := 12) rfl ?_
    refine e_bipush (x := 60) dX5_readOnce_12 (by decide) (pc2 := 14) rfl ?_
    refine e_sipush (x := 900) dX5_readOnce_14 (by decide) (pc2 := 17) rfl ?_
    obtain ⟨y21, s22, hy21, hf⟩ := bnd2_s hf
    refine e_callVs (t_X8_takeNumber 60 900 s hy21) dX5_readOnce_17 cv_X5_112 rfl so_36 rc_8 (by decide) (by first | exact Nat.le_of_ble_eq_true rfl | simp [rva_cat, vc_i, vc_r, vc_l, vc_n]) nn0 rfl (pc2 := 20) rfl ?_
    obtain ⟨s23, es23, hf⟩ := ltb_s hf
    refine e_putI fl_X5_116 dX5_readOnce_20 (okX4_o hv1) fn_4_0 (h2 := hp s23) (by rw [es23]; rfl) (pc2 := 23) rfl ?_
    refine e_aload_n dX5_readOnce_23 0 rfl rfl (pc2 := 24) rfl ?_
    refine e_getR (r := 36) fl_X5_9 dX5_readOnce_24 so_69 (rs_69_0 s23.2.2) (by decide) (pc2 := 27) rfl ?_
    refine e_getsE (i := 1) (by decide) dX5_readOnce_27 gs_X5_119 (pc2 := 30) rfl ?_
    obtain ⟨s25, hy24, hf⟩ := bnd_s hf
    refine e_callVn (t_X8_take 1001 (by decide) s23 hy24) dX5_readOnce_30 cv_X5_122 rfl so_36 rc_8 (by decide) (by first | exact Nat.le_of_ble_eq_true rfl | simp [rva_cat, vc_i, vc_r, vc_l, vc_n]) nn0 rfl (pc2 := 33) rfl ?_
    refine e_aload_n dX5_readOnce_33 1 rfl rfl (pc2 := 34) rfl ?_
    refine e_aload_n dX5_readOnce_34 0 rfl rfl (pc2 := 35) rfl ?_
    refine e_getR (r := 36) fl_X5_9 dX5_readOnce_35 so_69 (rs_69_0 s25.2.2) (by decide) (pc2 := 38) rfl ?_
    refine e_iconst (x := 1) dX5_readOnce_38 (by decide) (pc2 := 39) rfl ?_
    refine e_aload_n dX5_readOnce_39 1 rfl rfl (pc2 := 40) rfl ?_
    refine e_getI fl_X5_116 dX5_readOnce_40 (okX4_o hv1) (by decide) (pc2 := 43) rfl ?_
    obtain ⟨y26, s27, hy26, hf⟩ := bnd2_s hf
    refine e_callVs (t_X8_takeNumber 1 (s25.1 v1 0) s25 hy26) dX5_readOnce_43 cv_X5_112 rfl so_36 rc_8 (by decide) (by first | exact Nat.le_of_ble_eq_true rfl | simp [rva_cat, vc_i, vc_r, vc_l, vc_n]) nn0 rfl (pc2 := 46) rfl ?_
    obtain ⟨s28, es28, hf⟩ := ltb_s hf
    refine e_putI fl_X5_126 dX5_readOnce_46 (okX4_o hv1) fn_4_1 (h2 := hp s28) (by rw [es28]; rfl) (pc2 := 49) rfl ?_
    refine e_goto (tgt := 161) dX5_readOnce_49 (by decide) ?_
    cases hf
    exact e_vret rfl dX5_readOnce_161
abbrev DDX5_readLate : Nat := 7
def f_X5_readLate_l5b (v1 : Nat) (v2 : Int32) (v3 : Int32) (k5 : Int32 → Int32 → HS → Option HS) (k41 : Int32 → HS → Option HS) (s : HS) : Option HS :=
  (if 3 ≤ v3 then k41 v2 s else bnd2 (f_X8_takeNumber 0 10 s) fun y2 s3 => gd (inb v3 4) (ltb (sI s3 (Rf v1 7) (v3.toNatClampNeg) y2) fun s4 => gd (inb v3 4) (ltb (v2 - (s4.1 (Rf v1 7) v3.toNatClampNeg)) fun x7 => ltb (v3 + 1) fun x8 => k5 x7 x8 s4)))
set_option maxRecDepth 20000 in
set_option maxHeartbeats 2000000 in
theorem t_X5_readLate_l5b (v1 : Nat) (v2 : Int32) (v3 : Int32) (hv1 : okX4 v1 = true) (s : HS) {t : HS} (k5 : Int32 → Int32 → HS → Option HS) (hk5 : ∀ (a2 : Int32) (a3 : Int32) (s : HS), k5 a2 a3 s = some t → Ev DDX5_readLate miX5_readLate NF none NF (hp t) 5 NF [(0, .ref 69), (1, .ref v1), (2, .int a2), (3, .int a3)] [] (hp s)) (k41 : Int32 → HS → Option HS) (hk41 : ∀ (a2 : Int32) (s : HS), k41 a2 s = some t → Ev DDX5_readLate miX5_readLate NF none NF (hp t) 41 NF [(0, .ref 69), (1, .ref v1), (2, .int a2)] [] (hp s)) (hf : f_X5_readLate_l5b v1 v2 v3 k5 k41 s = some t) : Ev DDX5_readLate miX5_readLate NF none NF (hp t) 5 NF [(0, .ref 69), (1, .ref v1), (2, .int v2), (3, .int v3)] [] (hp s) := by
  refine e_iload_n dX5_readLate_5 3 rfl rfl (pc2 := 6) rfl ?_
  refine e_iconst (x := 3) dX5_readLate_6 (by decide) (pc2 := 7) rfl ?_
  refine e_icmp_ge (tgt := 41) dX5_readLate_7 (by decide) (pc2 := 10) rfl (fun c1 => ?_) (fun c1 => ?_)
  · have hf := if_t c1 hf
    refine ev_sub [0, 1, 2] rfl ?_
    exact hk41 v2 s hf
  · have hf := if_f c1 hf
    refine e_aload_n dX5_readLate_10 1 rfl rfl (pc2 := 11) rfl ?_
    refine e_getR (r := Rf v1 7) fl_X5_156 dX5_readLate_11 (okX4_o hv1) (okX4_R hv1) (isA_ne (okX4_late hv1)) (pc2 := 14) rfl ?_
    refine e_iload_n dX5_readLate_14 3 rfl rfl (pc2 := 15) rfl ?_
    refine e_aload_n dX5_readLate_15 0 rfl rfl (pc2 := 16) rfl ?_
    refine e_getR (r := 36) fl_X5_9 dX5_readLate_16 so_69 (rs_69_0 s.2.2) (by decide) (pc2 := 19) rfl ?_
    refine e_iconst (x := 0) dX5_readLate_19 (by decide) (pc2 := 20) rfl ?_
    refine e_bipush (x := 10) dX5_readLate_20 (by decide) (pc2 := 22) rfl ?_
    obtain ⟨y2, s3, hy2, hf⟩ := bnd2_s hf
    refine e_callVs (t_X8_takeNumber 0 10 s hy2) dX5_readLate_22 cv_X5_112 rfl so_36 rc_8 (by decide) (by first | exact Nat.le_of_ble_eq_true rfl | simp [rva_cat, vc_i, vc_r, vc_l, vc_n]) nn0 rfl (pc2 := 25) rfl ?_
    obtain ⟨g5, hf⟩ := gd_some hf
    obtain ⟨s4, es4, hf⟩ := ltb_s hf
    refine e_iast dX5_readLate_25 (okX4_late hv1) (inb_v g5) (h2 := hp s4) (by rw [es4]; rfl) (pc2 := 26) rfl ?_
    refine e_iload_n dX5_readLate_26 2 rfl rfl (pc2 := 27) rfl ?_
    refine e_aload_n dX5_readLate_27 1 rfl rfl (pc2 := 28) rfl ?_
    refine e_getR (r := Rf v1 7) fl_X5_156 dX5_readLate_28 (okX4_o hv1) (okX4_R hv1) (isA_ne (okX4_late hv1)) (pc2 := 31) rfl ?_
    refine e_iload_n dX5_readLate_31 3 rfl rfl (pc2 := 32) rfl ?_
    obtain ⟨g6, hf⟩ := gd_some hf
    refine e_iald dX5_readLate_32 (okX4_late hv1) (inb_v g6) (pc2 := 33) rfl ?_
    refine e_isub dX5_readLate_33 (pc2 := 34) rfl ?_
    obtain ⟨x7, ex7, hf⟩ := ltb_s hf
    refine e_istore_n dX5_readLate_34 rfl (by decide) ex7.symm (ls' := [(0, .ref 69), (1, .ref v1), (2, .int x7), (3, .int v3)]) [1, 2, 0, 3] rfl (pc2 := 35) rfl ?_
    obtain ⟨x8, ex8, hf⟩ := ltb_s hf
    refine e_iinc dX5_readLate_35 3 rfl (c9 := 1) (by decide) ex8.symm (by decide) (ls' := [(0, .ref 69), (1, .ref v1), (2, .int x7), (3, .int x8)]) [1, 2, 3, 0] rfl (pc2 := 38) rfl ?_
    refine e_goto (tgt := 5) dX5_readLate_38 (by decide) ?_
    exact hk5 x7 x8 s4 hf
def f_X5_readLate_l5 (v1 : Nat) (k41 : Int32 → HS → Option HS) : Nat → Int32 → Int32 → HS → Option HS
  | 0, _, _, _ => none
  | n + 1, v2, v3, s => f_X5_readLate_l5b v1 v2 v3 (f_X5_readLate_l5 v1 k41 n) k41 s
set_option maxRecDepth 20000 in
set_option maxHeartbeats 2000000 in
theorem t_X5_readLate_l5 (v1 : Nat) (hv1 : okX4 v1 = true) {t : HS} (k41 : Int32 → HS → Option HS) (hk41 : ∀ (a2 : Int32) (s : HS), k41 a2 s = some t → Ev DDX5_readLate miX5_readLate NF none NF (hp t) 41 NF [(0, .ref 69), (1, .ref v1), (2, .int a2)] [] (hp s)) : ∀ (n : Nat) (v2 : Int32) (v3 : Int32) (s : HS), f_X5_readLate_l5 v1 k41 n v2 v3 s = some t → Ev DDX5_readLate miX5_readLate NF none NF (hp t) 5 NF [(0, .ref 69), (1, .ref v1), (2, .int v2), (3, .int v3)] [] (hp s) := by
  intro n
  induction n with
  | zero =>
    intro v2 v3 s hf
    have hf : none = some t := hf
    cases hf
  | succ n ih =>
    intro v2 v3 s hf
    exact t_X5_readLate_l5b v1 v2 v3 hv1 s _ ih _ hk41 hf
def f_X5_readLate (v1 : Nat) (s : HS) : Option HS :=
  f_X5_readLate_l5 v1 (fun v9 s10 => bnd2 (f_X8_takeNumber v9 v9 s10) fun y11 s12 => ltb (sI s12 (Rf v1 7) (3) y11) fun s13 => some s13) FU 10 0 s
set_option maxRecDepth 20000 in
set_option maxHeartbeats 2000000 in
theorem t_X5_readLate (v1 : Nat) (hv1 : okX4 v1 = true) (s : HS) {t : HS} (hf : f_X5_readLate v1 s = some t) : Mt DDX5_readLate miX5_readLate [.ref 69, .ref v1] NF (hp s) none NF (hp t) := by
  refine Mt.of (by decide +kernel) (Nat.le_refl _) (Nat.le_of_ble_eq_true rfl) ?_
  show Ev DDX5_readLate miX5_readLate NF none NF (hp t) 0 NF [(0, .ref 69), (1, .ref v1)] [] (hp s)
  unfold f_X5_readLate at hf
  refine e_bipush (x := 10) dX5_readLate_0 (by decide) (pc2 := 2) rfl ?_
  refine e_istore_n dX5_readLate_2 rfl (by decide) rfl (ls' := [(0, .ref 69), (1, .ref v1), (2, .int 10)]) [1, 2, 0] rfl (pc2 := 3) rfl ?_
  refine e_iconst (x := 0) dX5_readLate_3 (by decide) (pc2 := 4) rfl ?_
  refine e_istore_n dX5_readLate_4 rfl (by decide) rfl (ls' := [(0, .ref 69), (1, .ref v1), (2, .int 10), (3, .int 0)]) [1, 2, 3, 0] rfl (pc2 := 5) rfl ?_
  refine t_X5_readLate_l5 v1 hv1 _ ?_ FU 10 0 s hf
  · intro v9 s10 hf
    refine e_aload_n dX5_readLate_41 1 rfl rfl (pc2 := 42) rfl ?_
    refine e_getR (r := Rf v1 7) fl_X5_156 dX5_readLate_42 (okX4_o hv1) (okX4_R hv1) (isA_ne (okX4_late hv1)) (pc2 := 45) rfl ?_
    refine e_iconst (x := 3) dX5_readLate_45 (by decide) (pc2 := 46) rfl ?_
    refine e_aload_n dX5_readLate_46 0 rfl rfl (pc2 := 47) rfl ?_
    refine e_getR (r := 36) fl_X5_9 dX5_readLate_47 so_69 (rs_69_0 s10.2.2) (by decide) (pc2 := 50) rfl ?_
    refine e_iload_n dX5_readLate_50 2 rfl rfl (pc2 := 51) rfl ?_
    refine e_iload_n dX5_readLate_51 2 rfl rfl (pc2 := 52) rfl ?_
    obtain ⟨y11, s12, hy11, hf⟩ := bnd2_s hf
    refine e_callVs (t_X8_takeNumber v9 v9 s10 hy11) dX5_readLate_52 cv_X5_112 rfl so_36 rc_8 (by decide) (by first | exact Nat.le_of_ble_eq_true rfl | simp [rva_cat, vc_i, vc_r, vc_l, vc_n]) nn0 rfl (pc2 := 55) rfl ?_
    obtain ⟨s13, es13, hf⟩ := ltb_s hf
    refine e_iast dX5_readLate_55 (okX4_late hv1) (inb_v (by decide)) (h2 := hp s13) (by rw [es13]; rfl) (pc2 := 56) rfl ?_
    cases hf
    exact e_vret rfl dX5_readLate_56
abbrev DDX5_takeNewName : Nat := 6
def f_X5_takeNewName (v1 : Nat) (s : HS) : Option (Int64 × HS) :=
  ltb (s.2.1 36 5) fun x1 => bnd (f_X8_isName s) fun y2 => (if y2 = 0 then bnd (f_X8_fail 1 s) fun s19 => some (x1, s19) else bnd (f_X4_coachOf v1 x1 s) fun y4 => (if 0 ≤ y4 then bnd (f_X8_fail 3 s) fun s7 => some (x1, s7) else bnd (f_X4_thingOf v1 x1 s) fun y8 => (if 0 ≤ y8 then bnd (f_X8_fail 3 s) fun s11 => some (x1, s11) else bnd (f_X4_buyerOf v1 x1 s) fun y12 => (if y12 < 0 then bnd (f_X8_step s) fun s15 => some (x1, s15) else bnd (f_X8_fail 3 s) fun s17 => some (x1, s17)))))
set_option maxRecDepth 20000 in
set_option maxHeartbeats 2000000 in
theorem t_X5_takeNewName (v1 : Nat) (hv1 : okX4 v1 = true) (s : HS) {x : Int64} {t : HS} (hf : f_X5_takeNewName v1 s = some (x, t)) : Mt DDX5_takeNewName miX5_takeNewName [.ref 69, .ref v1] NF (hp s) (some (.long x)) NF (hp t) := by
  refine Mt.of (by decide +kernel) (Nat.le_refl _) (Nat.le_of_ble_eq_true rfl) ?_
  show Ev DDX5_takeNewName miX5_takeNewName NF (some (.long x)) NF (hp t) 0 NF [(0, .ref 69), (1, .ref v1)] [] (hp s)
  unfold f_X5_takeNewName at hf
  refine e_aload_n dX5_takeNewName_0 0 rfl rfl (pc2 := 1) rfl ?_
  refine e_getR (r := 36) fl_X5_9 dX5_takeNewName_1 so_69 (rs_69_0 s.2.2) (by decide) (pc2 := 4) rfl ?_
  refine e_getL fl_X5_252 dX5_takeNewName_4 so_36 rfl (pc2 := 7) rfl ?_
  obtain ⟨x1, ex1, hf⟩ := ltb_s hf
  refine e_lstore_n dX5_takeNewName_7 rfl (by decide) ex1.symm (ls' := [(0, .ref 69), (1, .ref v1), (2, .long x1)]) [1, 2, 0] rfl (pc2 := 8) rfl ?_
  refine e_aload_n dX5_takeNewName_8 0 rfl rfl (pc2 := 9) rfl ?_
  refine e_getR (r := 36) fl_X5_9 dX5_takeNewName_9 so_69 (rs_69_0 s.2.2) (by decide) (pc2 := 12) rfl ?_
  obtain ⟨y2, hy2, hf⟩ := bnd_s hf
  refine e_callVs (t_X8_isName  s hy2) dX5_takeNewName_12 cv_X5_295 rfl so_36 rc_8 (by decide) (by first | exact Nat.le_of_ble_eq_true rfl | simp [rva_cat, vc_i, vc_r, vc_l, vc_n]) nn0 rfl (pc2 := 15) rfl ?_
  refine e_if_ne (tgt := 29) dX5_takeNewName_15 (by decide) (pc2 := 18) rfl (fun c3 => ?_) (fun c3 => ?_)
  · have hf := if_f c3 hf
    refine e_aload_n dX5_takeNewName_29 1 rfl rfl (pc2 := 30) rfl ?_
    refine e_lload_n dX5_takeNewName_30 2 rfl rfl (pc2 := 31) rfl ?_
    obtain ⟨y4, hy4, hf⟩ := bnd_s hf
    refine e_callVs (t_X4_coachOf v1 hv1 x1 s hy4) dX5_takeNewName_31 cv_X5_255 rfl (okX4_o hv1) rc_4 (by decide) (by first | exact Nat.le_of_ble_eq_true rfl | simp [rva_cat, vc_i, vc_r, vc_l, vc_n]) nn0 rfl (pc2 := 34) rfl ?_
    refine e_if_ge (tgt := 53) dX5_takeNewName_34 (by decide) (pc2 := 37) rfl (fun c5 => ?_) (fun c5 => ?_)
    · have hf := if_t c5 hf
      refine e_aload_n dX5_takeNewName_53 0 rfl rfl (pc2 := 54) rfl ?_
      refine e_getR (r := 36) fl_X5_9 dX5_takeNewName_54 so_69 (rs_69_0 s.2.2) (by decide) (pc2 := 57) rfl ?_
      refine e_iconst (x := 3) dX5_takeNewName_57 (by decide) (pc2 := 58) rfl ?_
      obtain ⟨s7, hy6, hf⟩ := bnd_s hf
      refine e_callVn (t_X8_fail 3 s hy6) dX5_takeNewName_58 cv_X5_77 rfl so_36 rc_8 (by decide) (by first | exact Nat.le_of_ble_eq_true rfl | simp [rva_cat, vc_i, vc_r, vc_l, vc_n]) nn0 rfl (pc2 := 61) rfl ?_
      refine e_goto (tgt := 71) dX5_takeNewName_61 (by decide) ?_
      refine e_lload_n dX5_takeNewName_71 2 rfl rfl (pc2 := 72) rfl ?_
      cases hf
      exact e_lret rfl dX5_takeNewName_72
    · have hf := if_f c5 hf
      refine e_aload_n dX5_takeNewName_37 1 rfl rfl (pc2 := 38) rfl ?_
      refine e_lload_n dX5_takeNewName_38 2 rfl rfl (pc2 := 39) rfl ?_
      obtain ⟨y8, hy8, hf⟩ := bnd_s hf
      refine e_callVs (t_X4_thingOf v1 hv1 x1 s hy8) dX5_takeNewName_39 cv_X5_292 rfl (okX4_o hv1) rc_4 (by decide) (by first | exact Nat.le_of_ble_eq_true rfl | simp [rva_cat, vc_i, vc_r, vc_l, vc_n]) nn0 rfl (pc2 := 42) rfl ?_
      refine e_if_ge (tgt := 53) dX5_takeNewName_42 (by decide) (pc2 := 45) rfl (fun c9 => ?_) (fun c9 => ?_)
      · have hf := if_t c9 hf
        refine e_aload_n dX5_takeNewName_53 0 rfl rfl (pc2 := 54) rfl ?_
        refine e_getR (r := 36) fl_X5_9 dX5_takeNewName_54 so_69 (rs_69_0 s.2.2) (by decide) (pc2 := 57) rfl ?_
        refine e_iconst (x := 3) dX5_takeNewName_57 (by decide) (pc2 := 58) rfl ?_
        obtain ⟨s11, hy10, hf⟩ := bnd_s hf
        refine e_callVn (t_X8_fail 3 s hy10) dX5_takeNewName_58 cv_X5_77 rfl so_36 rc_8 (by decide) (by first | exact Nat.le_of_ble_eq_true rfl | simp [rva_cat, vc_i, vc_r, vc_l, vc_n]) nn0 rfl (pc2 := 61) rfl ?_
        refine e_goto (tgt := 71) dX5_takeNewName_61 (by decide) ?_
        refine e_lload_n dX5_takeNewName_71 2 rfl rfl (pc2 := 72) rfl ?_
        cases hf
        exact e_lret rfl dX5_takeNewName_72
      · have hf := if_f c9 hf
        refine e_aload_n dX5_takeNewName_45 1 rfl rfl (pc2 := 46) rfl ?_
        refine e_lload_n dX5_takeNewName_46 2 rfl rfl (pc2 := 47) rfl ?_
        obtain ⟨y12, hy12, hf⟩ := bnd_s hf
        refine e_callVs (t_X4_buyerOf v1 hv1 x1 s hy12) dX5_takeNewName_47 cv_X5_301 rfl (okX4_o hv1) rc_4 (by decide) (by first | exact Nat.le_of_ble_eq_true rfl | simp [rva_cat, vc_i, vc_r, vc_l, vc_n]) nn0 rfl (pc2 := 50) rfl ?_
        refine e_if_lt (tgt := 64) dX5_takeNewName_50 (by decide) (pc2 := 53) rfl (fun c13 => ?_) (fun c13 => ?_)
        · have hf := if_t c13 hf
          refine e_aload_n dX5_takeNewName_64 0 rfl rfl (pc2 := 65) rfl ?_
          refine e_getR (r := 36) fl_X5_9 dX5_takeNewName_65 so_69 (rs_69_0 s.2.2) (by decide) (pc2 := 68) rfl ?_
          obtain ⟨s15, hy14, hf⟩ := bnd_s hf
          refine e_callVn (t_X8_step  s hy14) dX5_takeNewName_68 cv_X5_81 rfl so_36 rc_8 (by decide) (by first | exact Nat.le_of_ble_eq_true rfl | simp [rva_cat, vc_i, vc_r, vc_l, vc_n]) nn0 rfl (pc2 := 71) rfl ?_
          refine e_lload_n dX5_takeNewName_71 2 rfl rfl (pc2 := 72) rfl ?_
          cases hf
          exact e_lret rfl dX5_takeNewName_72
        · have hf := if_f c13 hf
          refine e_aload_n dX5_takeNewName_53 0 rfl rfl (pc2 := 54) rfl ?_
          refine e_getR (r := 36) fl_X5_9 dX5_takeNewName_54 so_69 (rs_69_0 s.2.2) (by decide) (pc2 := 57) rfl ?_
          refine e_iconst (x := 3) dX5_takeNewName_57 (by decide) (pc2 := 58) rfl ?_
          obtain ⟨s17, hy16, hf⟩ := bnd_s hf
          refine e_callVn (t_X8_fail 3 s hy16) dX5_takeNewName_58 cv_X5_77 rfl so_36 rc_8 (by decide) (by first | exact Nat.le_of_ble_eq_true rfl | simp [rva_cat, vc_i, vc_r, vc_l, vc_n]) nn0 rfl (pc2 := 61) rfl ?_
          refine e_goto (tgt := 71) dX5_takeNewName_61 (by decide) ?_
          refine e_lload_n dX5_takeNewName_71 2 rfl rfl (pc2 := 72) rfl ?_
          cases hf
          exact e_lret rfl dX5_takeNewName_72
  · have hf := if_t c3 hf
    refine e_aload_n dX5_takeNewName_18 0 rfl rfl (pc2 := 19) rfl ?_
    refine e_getR (r := 36) fl_X5_9 dX5_takeNewName_19 so_69 (rs_69_0 s.2.2) (by decide) (pc2 := 22) rfl ?_
    refine e_iconst (x := 1) dX5_takeNewName_22 (by decide) (pc2 := 23) rfl ?_
    obtain ⟨s19, hy18, hf⟩ := bnd_s hf
    refine e_callVn (t_X8_fail 1 s hy18) dX5_takeNewName_23 cv_X5_77 rfl so_36 rc_8 (by decide) (by first | exact Nat.le_of_ble_eq_true rfl | simp [rva_cat, vc_i, vc_r, vc_l, vc_n]) nn0 rfl (pc2 := 26) rfl ?_
    refine e_goto (tgt := 71) dX5_takeNewName_26 (by decide) ?_
    refine e_lload_n dX5_takeNewName_71 2 rfl rfl (pc2 := 72) rfl ?_
    cases hf
    exact e_lret rfl dX5_takeNewName_72
abbrev DDX5_readCoach : Nat := 7
def f_X5_readCoach (v1 : Nat) (s : HS) : Option HS :=
  (if (s.1 v1 9) < 6 then bnd (f_X8_step s) fun s3 => bnd2 (f_X5_takeNewName v1 s3) fun y4 s5 => gd (inb (s3.1 v1 9) 6) (ltb (sL s5 (Rf v1 10) ((s3.1 v1 9).toNatClampNeg) y4) fun s6 => bnd (f_X8_take 1003 s6) fun s9 => bnd2 (f_X8_takeNumber 0 200 s9) fun y10 s11 => gd (inb (s9.1 v1 9) 6) (ltb (sI s11 (Rf v1 11) ((s9.1 v1 9).toNatClampNeg) y10) fun s12 => ltb (sI s12 v1 9 ((s12.1 v1 9) + 1)) fun s14 => some s14)) else bnd (f_X8_fail 5 s) fun s16 => some s16)
set_option maxRecDepth 20000 in
set_option maxHeartbeats 2000000 in
theorem t_X5_readCoach (v1 : Nat) (hv1 : okX4 v1 = true) (s : HS) {t : HS} (hf : f_X5_readCoach v1 s = some t) : Mt DDX5_readCoach miX5_readCoach [.ref 69, .ref v1] NF (hp s) none NF (hp t) := by
  refine Mt.of (by decide +kernel) (Nat.le_refl _) (Nat.le_of_ble_eq_true rfl) ?_
  show Ev DDX5_readCoach miX5_readCoach NF none NF (hp t) 0 NF [(0, .ref 69), (1, .ref v1)] [] (hp s)
  unfold f_X5_readCoach at hf
  refine e_aload_n dX5_readCoach_0 1 rfl rfl (pc2 := 1) rfl ?_
  refine e_getI fl_X5_160 dX5_readCoach_1 (okX4_o hv1) (by decide) (pc2 := 4) rfl ?_
  refine e_bipush (x := 6) dX5_readCoach_4 (by decide) (pc2 := 6) rfl ?_
  refine e_icmp_lt (tgt := 18) dX5_readCoach_6 (by decide) (pc2 := 9) rfl (fun c1 => ?_) (fun c1 => ?_)
  · have hf := if_t c1 hf
    refine e_aload_n dX5_readCoach_18 0 rfl rfl (pc2 := 19) rfl ?_
    refine e_getR (r := 36) fl_X5_9 dX5_readCoach_19 so_69 (rs_69_0 s.2.2) (by decide) (pc2 := 22) rfl ?_
    obtain ⟨s3, hy2, hf⟩ := bnd_s hf
    refine e_callVn (t_X8_step  s hy2) dX5_readCoach_22 cv_X5_81 rfl so_36 rc_8 (by decide) (by first | exact Nat.le_of_ble_eq_true rfl | simp [rva_cat, vc_i, vc_r, vc_l, vc_n]) nn0 rfl (pc2 := 25) rfl ?_
    refine e_aload_n dX5_readCoach_25 1 rfl rfl (pc2 := 26) rfl ?_
    refine e_getR (r := Rf v1 10) fl_X5_163 dX5_readCoach_26 (okX4_o hv1) (okX4_R hv1) (isA_ne (okX4_coachName hv1)) (pc2 := 29) rfl ?_
    refine e_aload_n dX5_readCoach_29 1 rfl rfl (pc2 := 30) rfl ?_
    refine e_getI fl_X5_160 dX5_readCoach_30 (okX4_o hv1) (by decide) (pc2 := 33) rfl ?_
    refine e_aload_n dX5_readCoach_33 0 rfl rfl (pc2 := 34) rfl ?_
    refine e_aload_n dX5_readCoach_34 1 rfl rfl (pc2 := 35) rfl ?_
    obtain ⟨y4, s5, hy4, hf⟩ := bnd2_s hf
    refine e_callVs (t_X5_takeNewName v1 hv1 s3 hy4) dX5_readCoach_35 cv_X5_167 rfl so_69 rc_5 (by decide) (by first | exact Nat.le_of_ble_eq_true rfl | simp [rva_cat, vc_i, vc_r, vc_l, vc_n]) nn0 rfl (pc2 := 38) rfl ?_
    obtain ⟨g7, hf⟩ := gd_some hf
    obtain ⟨s6, es6, hf⟩ := ltb_s hf
    refine e_last dX5_readCoach_38 (okX4_coachName hv1) (inb_v g7) (h2 := hp s6) (by rw [es6]; rfl) (pc2 := 39) rfl ?_
    refine e_aload_n dX5_readCoach_39 0 rfl rfl (pc2 := 40) rfl ?_
    refine e_getR (r := 36) fl_X5_9 dX5_readCoach_40 so_69 (rs_69_0 s6.2.2) (by decide) (pc2 := 43) rfl ?_
    refine e_getsE (i := 3) (by decide) dX5_readCoach_43 gs_X5_171 (pc2 := 46) rfl ?_
    obtain ⟨s9, hy8, hf⟩ := bnd_s hf
    refine e_callVn (t_X8_take 1003 (by decide) s6 hy8) dX5_readCoach_46 cv_X5_122 rfl so_36 rc_8 (by decide) (by first | exact Nat.le_of_ble_eq_true rfl | simp [rva_cat, vc_i, vc_r, vc_l, vc_n]) nn0 rfl (pc2 := 49) rfl ?_
    refine e_aload_n dX5_readCoach_49 1 rfl rfl (pc2 := 50) rfl ?_
    refine e_getR (r := Rf v1 11) fl_X5_174 dX5_readCoach_50 (okX4_o hv1) (okX4_R hv1) (isA_ne (okX4_yards hv1)) (pc2 := 53) rfl ?_
    refine e_aload_n dX5_readCoach_53 1 rfl rfl (pc2 := 54) rfl ?_
    refine e_getI fl_X5_160 dX5_readCoach_54 (okX4_o hv1) (by decide) (pc2 := 57) rfl ?_
    refine e_aload_n dX5_readCoach_57 0 rfl rfl (pc2 := 58) rfl ?_
    refine e_getR (r := 36) fl_X5_9 dX5_readCoach_58 so_69 (rs_69_0 s9.2.2) (by decide) (pc2 := 61) rfl ?_
    refine e_iconst (x := 0) dX5_readCoach_61 (by decide) (pc2 := 62) rfl ?_
    refine e_sipush (x := 200) dX5_readCoach_62 (by decide) (pc2 := 65) rfl ?_
    obtain ⟨y10, s11, hy10, hf⟩ := bnd2_s hf
    refine e_callVs (t_X8_takeNumber 0 200 s9 hy10) dX5_readCoach_65 cv_X5_112 rfl so_36 rc_8 (by decide) (by first | exact Nat.le_of_ble_eq_true rfl | simp [rva_cat, vc_i, vc_r, vc_l, vc_n]) nn0 rfl (pc2 := 68) rfl ?_
    obtain ⟨g13, hf⟩ := gd_some hf
    obtain ⟨s12, es12, hf⟩ := ltb_s hf
    refine e_iast dX5_readCoach_68 (okX4_yards hv1) (inb_v g13) (h2 := hp s12) (by rw [es12]; rfl) (pc2 := 69) rfl ?_
    refine e_aload_n dX5_readCoach_69 1 rfl rfl (pc2 := 70) rfl ?_
    refine e_dup dX5_readCoach_70 rfl (pc2 := 71) rfl ?_
    refine e_getI fl_X5_160 dX5_readCoach_71 (okX4_o hv1) (by decide) (pc2 := 74) rfl ?_
    refine e_iconst (x := 1) dX5_readCoach_74 (by decide) (pc2 := 75) rfl ?_
    refine e_iadd dX5_readCoach_75 (pc2 := 76) rfl ?_
    obtain ⟨s14, es14, hf⟩ := ltb_s hf
    refine e_putI fl_X5_160 dX5_readCoach_76 (okX4_o hv1) fn_4_9 (h2 := hp s14) (by rw [es14]; rfl) (pc2 := 79) rfl ?_
    cases hf
    exact e_vret rfl dX5_readCoach_79
  · have hf := if_f c1 hf
    refine e_aload_n dX5_readCoach_9 0 rfl rfl (pc2 := 10) rfl ?_
    refine e_getR (r := 36) fl_X5_9 dX5_readCoach_10 so_69 (rs_69_0 s.2.2) (by decide) (pc2 := 13) rfl ?_
    refine e_iconst (x := 5) dX5_readCoach_13 (by decide) (pc2 := 14) rfl ?_
    obtain ⟨s16, hy15, hf⟩ := bnd_s hf
    refine e_callVn (t_X8_fail 5 s hy15) dX5_readCoach_14 cv_X5_77 rfl so_36 rc_8 (by decide) (by first | exact Nat.le_of_ble_eq_true rfl | simp [rva_cat, vc_i, vc_r, vc_l, vc_n]) nn0 rfl (pc2 := 17) rfl ?_
    cases hf
    exact e_vret rfl dX5_readCoach_17
abbrev DDX8_takeOneOf : Nat := 7
def f_X8_takeOneOf_j25 (v1 : Nat) (v2 : Nat) (v3 : Nat) (w0 : Int32) (s : HS) : Option (Int32 × HS) :=
  (if w0 = 0 then bnd (f_X8_take v1 s) fun s12 => some (w0, s12) else (if w0 = 1 then bnd (f_X8_take v2 s) fun s10 => some (w0, s10) else bnd (f_X8_take v3 s) fun s8 => some (w0, s8)))
set_option maxRecDepth 20000 in
set_option maxHeartbeats 2000000 in
theorem t_X8_takeOneOf_j25 (v1 : Nat) (v2 : Nat) (v3 : Nat) (w0 : Int32) (hv1 : wob v1 = true) (hv2 : wob v2 = true) (hv3 : wob v3 = true) (s : HS) {x : Int32} {t : HS}  (hf : f_X8_takeOneOf_j25 v1 v2 v3 w0 s = some (x, t)) : Ev DDX8_takeOneOf miX8_takeOneOf NF (some (.int x)) NF (hp t) 25 NF [(0, .ref 36), (1, rva v1), (2, rva v2), (3, rva v3)] [.int w0] (hp s) := by
  refine e_istore dX8_takeOneOf_25 (by decide) rfl (ls' := [(0, .ref 36), (1, rva v1), (2, rva v2), (3, rva v3), (4, .int w0)]) [1, 2, 3, 4, 0] (by first | rfl | simp [lv_pick, rva_cat, vc_i, vc_r, vc_l, vc_n]) (pc2 := 27) rfl ?_
  refine e_aload_n dX8_takeOneOf_27 0 rfl rfl (pc2 := 28) rfl ?_
  refine e_iload dX8_takeOneOf_28 4 rfl (pc2 := 30) rfl ?_
  refine e_if_ne (tgt := 37) dX8_takeOneOf_30 (by decide) (pc2 := 33) rfl (fun c5 => ?_) (fun c5 => ?_)
  · have hf := if_f c5 hf
    refine e_iload dX8_takeOneOf_37 4 rfl (pc2 := 39) rfl ?_
    refine e_iconst (x := 1) dX8_takeOneOf_39 (by decide) (pc2 := 40) rfl ?_
    refine e_icmp_ne (tgt := 47) dX8_takeOneOf_40 (by decide) (pc2 := 43) rfl (fun c6 => ?_) (fun c6 => ?_)
    · have hf := if_f c6 hf
      refine e_aload_nQ (w := v3) dX8_takeOneOf_47 3 rfl rfl (pc2 := 48) rfl ?_
      obtain ⟨s8, hy7, hf⟩ := bnd_s hf
      refine e_callVn (t_X8_take v3 hv3 s hy7) dX8_takeOneOf_48 cv_X8_85 rfl so_36 rc_8 (by decide) (by first | exact Nat.le_of_ble_eq_true rfl | simp [rva_cat, vc_i, vc_r, vc_l, vc_n]) nn0 rfl (pc2 := 51) rfl ?_
      refine e_iload dX8_takeOneOf_51 4 rfl (pc2 := 53) rfl ?_
      cases hf
      exact e_iret rfl dX8_takeOneOf_53
    · have hf := if_t c6 hf
      refine e_aload_nQ (w := v2) dX8_takeOneOf_43 2 rfl rfl (pc2 := 44) rfl ?_
      refine e_goto (tgt := 48) dX8_takeOneOf_44 (by decide) ?_
      obtain ⟨s10, hy9, hf⟩ := bnd_s hf
      refine e_callVn (t_X8_take v2 hv2 s hy9) dX8_takeOneOf_48 cv_X8_85 rfl so_36 rc_8 (by decide) (by first | exact Nat.le_of_ble_eq_true rfl | simp [rva_cat, vc_i, vc_r, vc_l, vc_n]) nn0 rfl (pc2 := 51) rfl ?_
      refine e_iload dX8_takeOneOf_51 4 rfl (pc2 := 53) rfl ?_
      cases hf
      exact e_iret rfl dX8_takeOneOf_53
  · have hf := if_t c5 hf
    refine e_aload_nQ (w := v1) dX8_takeOneOf_33 1 rfl rfl (pc2 := 34) rfl ?_
    refine e_goto (tgt := 48) dX8_takeOneOf_34 (by decide) ?_
    obtain ⟨s12, hy11, hf⟩ := bnd_s hf
    refine e_callVn (t_X8_take v1 hv1 s hy11) dX8_takeOneOf_48 cv_X8_85 rfl so_36 rc_8 (by decide) (by first | exact Nat.le_of_ble_eq_true rfl | simp [rva_cat, vc_i, vc_r, vc_l, vc_n]) nn0 rfl (pc2 := 51) rfl ?_
    refine e_iload dX8_takeOneOf_51 4 rfl (pc2 := 53) rfl ?_
    cases hf
    exact e_iret rfl dX8_takeOneOf_53
def f_X8_takeOneOf (v1 : Nat) (v2 : Nat) (v3 : Nat) (s : HS) : Option (Int32 × HS) :=
  gd (wob (s.2.2.2.2.2.2)) ((if (s.2.2.2.2.2.2) = v1 then f_X8_takeOneOf_j25 v1 v2 v3 0 s else gd (wob (s.2.2.2.2.2.2)) ((if (s.2.2.2.2.2.2) = v2 then f_X8_takeOneOf_j25 v1 v2 v3 1 s else f_X8_takeOneOf_j25 v1 v2 v3 2 s))))
set_option maxRecDepth 20000 in
set_option maxHeartbeats 2000000 in
theorem t_X8_takeOneOf (v1 : Nat) (hv1 : wob v1 = true) (v2 : Nat) (hv2 : wob v2 = true) (v3 : Nat) (hv3 : wob v3 = true) (s : HS) {x : Int32} {t : HS} (hf : f_X8_takeOneOf v1 v2 v3 s = some (x, t)) : Mt DDX8_takeOneOf miX8_takeOneOf [.ref 36, rva v1, rva v2, rva v3] NF (hp s) (some (.int x)) NF (hp t) := by
  refine Mt.of (by decide +kernel) (Nat.le_refl _) (by simp [lg_sl, rva_cat, vc_i, vc_r, vc_l, vc_n]) ?_
  rw [show lv_args 0 [.ref 36, rva v1, rva v2, rva v3] = [(0, .ref 36), (1, rva v1), (2, rva v2), (3, rva v3)] by simp [lv_args, rva_cat, vc_i, vc_r, vc_l, vc_n]]
  show Ev DDX8_takeOneOf miX8_takeOneOf NF (some (.int x)) NF (hp t) 0 NF [(0, .ref 36), (1, rva v1), (2, rva v2), (3, rva v3)] [] (hp s)
  unfold f_X8_takeOneOf at hf
  refine e_aload_n dX8_takeOneOf_0 0 rfl rfl (pc2 := 1) rfl ?_
  obtain ⟨g1, hf⟩ := gd_some hf
  refine e_getQ (w := s.2.2.2.2.2.2) fl_X8_36 dX8_takeOneOf_1 so_36 rfl (pc2 := 4) rfl ?_
  refine e_aload_nQ (w := v1) dX8_takeOneOf_4 1 rfl rfl (pc2 := 5) rfl ?_
  refine e_acmp_ne (tgt := 12) dX8_takeOneOf_5 (by decide) (w1 := s.2.2.2.2.2.2) (w2 := v1) g1 hv1 (pc2 := 8) rfl (fun c2 => ?_) (fun c2 => ?_)
  · have hf := if_f c2 hf
    refine e_aload_n dX8_takeOneOf_12 0 rfl rfl (pc2 := 13) rfl ?_
    obtain ⟨g3, hf⟩ := gd_some hf
    refine e_getQ (w := s.2.2.2.2.2.2) fl_X8_36 dX8_takeOneOf_13 so_36 rfl (pc2 := 16) rfl ?_
    refine e_aload_nQ (w := v2) dX8_takeOneOf_16 2 rfl rfl (pc2 := 17) rfl ?_
    refine e_acmp_ne (tgt := 24) dX8_takeOneOf_17 (by decide) (w1 := s.2.2.2.2.2.2) (w2 := v2) g3 hv2 (pc2 := 20) rfl (fun c4 => ?_) (fun c4 => ?_)
    · have hf := if_f c4 hf
      refine e_iconst (x := 2) dX8_takeOneOf_24 (by decide) (pc2 := 25) rfl ?_
      exact t_X8_takeOneOf_j25 v1 v2 v3 2 hv1 hv2 hv3 s hf
    · have hf := if_t c4 hf
      refine e_iconst (x := 1) dX8_takeOneOf_20 (by decide) (pc2 := 21) rfl ?_
      refine e_goto (tgt := 25) dX8_takeOneOf_21 (by decide) ?_
      exact t_X8_takeOneOf_j25 v1 v2 v3 1 hv1 hv2 hv3 s hf
  · have hf := if_t c2 hf
    refine e_iconst (x := 0) dX8_takeOneOf_8 (by decide) (pc2 := 9) rfl ?_
    refine e_goto (tgt := 25) dX8_takeOneOf_9 (by decide) ?_
    exact t_X8_takeOneOf_j25 v1 v2 v3 0 hv1 hv2 hv3 s hf
abbrev DDX5_readThing : Nat := 8
def f_X5_readThing (v1 : Nat) (s : HS) : Option HS :=
  (if (s.1 v1 12) < 5 then gd (inb (s.1 v1 12) 5) (ltb (Rf (Rf v1 13) (s.1 v1 12).toNatClampNeg) fun o3 => bnd (f_X8_step s) fun s5 => bnd2 (f_X5_takeNewName v1 s5) fun y6 s7 => ltb (sL s7 o3 0 y6) fun s8 => bnd2 (f_X8_takeOneOf 1024 1025 1026 s8) fun y9 s10 => ltb (sI s10 o3 1 y9) fun s11 => bnd (f_X8_take 1005 s11) fun s13 => bnd2 (f_X8_takeNumber 1 60 s13) fun y14 s15 => ltb (sI s15 o3 2 y14) fun s16 => bnd (f_X8_take 1006 s16) fun s18 => bnd2 (f_X8_takeNumber 1 99 s18) fun y19 s20 => ltb (sI s20 o3 3 y19) fun s21 => bnd (f_X8_take 1007 s21) fun s23 => bnd2 (f_X8_takeNumber 0 99 s23) fun y24 s25 => ltb (sI s25 o3 4 y24) fun s26 => bnd (f_X8_take 1008 s26) fun s28 => bnd2 (f_X8_takeNumber 0 20 s28) fun y29 s30 => ltb (sI s30 o3 5 y29) fun s31 => ltb (sI s31 v1 12 ((s31.1 v1 12) + 1)) fun s32 => some s32) else bnd (f_X8_fail 5 s) fun s34 => some s34)
set_option maxRecDepth 20000 in
set_option maxHeartbeats 2000000 in
theorem t_X5_readThing (v1 : Nat) (hv1 : okX4 v1 = true) (s : HS) {t : HS} (hf : f_X5_readThing v1 s = some t) : Mt DDX5_readThing miX5_readThing [.ref 69, .ref v1] NF (hp s) none NF (hp t) := by
  refine Mt.of (by decide +kernel) (Nat.le_refl _) (Nat.le_of_ble_eq_true rfl) ?_
  show Ev DDX5_readThing miX5_readThing NF none NF (hp t) 0 NF [(0, .ref 69), (1, .ref v1)] [] (hp s)
  unfold f_X5_readThing at hf
  refine e_aload_n dX5_readThing_0 1 rfl rfl (pc2 := 1) rfl ?_
  refine e_getI fl_X5_177 dX5_readThing_1 (okX4_o hv1) (by decide) (pc2 := 4) rfl ?_
  refine e_iconst (x := 5) dX5_readThing_4 (by decide) (pc2 := 5) rfl ?_
  refine e_icmp_lt (tgt := 17) dX5_readThing_5 (by decide) (pc2 := 8) rfl (fun c1 => ?_) (fun c1 => ?_)
  · have hf := if_t c1 hf
    refine e_aload_n dX5_readThing_17 1 rfl rfl (pc2 := 18) rfl ?_
    refine e_getR (r := Rf v1 13) fl_X5_180 dX5_readThing_18 (okX4_o hv1) (okX4_R hv1) (isA_ne (okX4_thing hv1)) (pc2 := 21) rfl ?_
    refine e_aload_n dX5_readThing_21 1 rfl rfl (pc2 := 22) rfl ?_
    refine e_getI fl_X5_177 dX5_readThing_22 (okX4_o hv1) (by decide) (pc2 := 25) rfl ?_
    obtain ⟨g2, hf⟩ := gd_some hf
    refine e_aald (r := Rf (Rf v1 13) (s.1 v1 12).toNatClampNeg) dX5_readThing_25 (okX4_thing hv1) (by decide) (inb_v g2) (Rs_na (q := s.2.2) (okX4_thing hv1) (by decide)) (okX9_ne (okX4_thing_el hv1 (inb_v g2))) (pc2 := 26) rfl ?_
    obtain ⟨o3, eo3, hf⟩ := ltb_s hf
    have ho3 : okX9 o3 = true := by rw [eo3]; exact (okX4_thing_el hv1 (inb_v g2))
    refine e_astore_n dX5_readThing_26 rfl (by decide) eo3.symm (ls' := [(0, .ref 69), (1, .ref v1), (2, .ref o3)]) [1, 2, 0] rfl (pc2 := 27) rfl ?_
    refine e_aload_n dX5_readThing_27 0 rfl rfl (pc2 := 28) rfl ?_
    refine e_getR (r := 36) fl_X5_9 dX5_readThing_28 so_69 (rs_69_0 s.2.2) (by decide) (pc2 := 31) rfl ?_
    obtain ⟨s5, hy4, hf⟩ := bnd_s hf
    refine e_callVn (t_X8_step  s hy4) dX5_readThing_31 cv_X5_81 rfl so_36 rc_8 (by decide) (by first | exact Nat.le_of_ble_eq_true rfl | simp [rva_cat, vc_i, vc_r, vc_l, vc_n]) nn0 rfl (pc2 := 34) rfl ?_
    refine e_aload_n dX5_readThing_34 2 rfl rfl (pc2 := 35) rfl ?_
    refine e_aload_n dX5_readThing_35 0 rfl rfl (pc2 := 36) rfl ?_
    refine e_aload_n dX5_readThing_36 1 rfl rfl (pc2 := 37) rfl ?_
    obtain ⟨y6, s7, hy6, hf⟩ := bnd2_s hf
    refine e_callVs (t_X5_takeNewName v1 hv1 s5 hy6) dX5_readThing_37 cv_X5_167 rfl so_69 rc_5 (by decide) (by first | exact Nat.le_of_ble_eq_true rfl | simp [rva_cat, vc_i, vc_r, vc_l, vc_n]) nn0 rfl (pc2 := 40) rfl ?_
    obtain ⟨s8, es8, hf⟩ := ltb_s hf
    refine e_putL fl_X5_184 dX5_readThing_40 (okX9_o ho3) fn_9_0 (h2 := hp s8) (by rw [es8]; rfl) (pc2 := 43) rfl ?_
    refine e_aload_n dX5_readThing_43 2 rfl rfl (pc2 := 44) rfl ?_
    refine e_aload_n dX5_readThing_44 0 rfl rfl (pc2 := 45) rfl ?_
    refine e_getR (r := 36) fl_X5_9 dX5_readThing_45 so_69 (rs_69_0 s8.2.2) (by decide) (pc2 := 48) rfl ?_
    refine e_getsE (i := 24) (by decide) dX5_readThing_48 gs_X5_190 (pc2 := 51) rfl ?_
    refine e_getsE (i := 25) (by decide) dX5_readThing_51 gs_X5_193 (pc2 := 54) rfl ?_
    refine e_getsE (i := 26) (by decide) dX5_readThing_54 gs_X5_196 (pc2 := 57) rfl ?_
    obtain ⟨y9, s10, hy9, hf⟩ := bnd2_s hf
    refine e_callVs (t_X8_takeOneOf 1024 (by decide) 1025 (by decide) 1026 (by decide) s8 hy9) dX5_readThing_57 cv_X5_199 rfl so_36 rc_8 (by decide) (by first | exact Nat.le_of_ble_eq_true rfl | simp [rva_cat, vc_i, vc_r, vc_l, vc_n]) nn0 rfl (pc2 := 60) rfl ?_
    obtain ⟨s11, es11, hf⟩ := ltb_s hf
    refine e_putI fl_X5_203 dX5_readThing_60 (okX9_o ho3) fn_9_1 (h2 := hp s11) (by rw [es11]; rfl) (pc2 := 63) rfl ?_
    refine e_aload_n dX5_readThing_63 0 rfl rfl (pc2 := 64) rfl ?_
    refine e_getR (r := 36) fl_X5_9 dX5_readThing_64 so_69 (rs_69_0 s11.2.2) (by decide) (pc2 := 67) rfl ?_
    refine e_getsE (i := 5) (by decide) dX5_readThing_67 gs_X5_206 (pc2 := 70) rfl ?_
    obtain ⟨s13, hy12, hf⟩ := bnd_s hf
    refine e_callVn (t_X8_take 1005 (by decide) s11 hy12) dX5_readThing_70 cv_X5_122 rfl so_36 rc_8 (by decide) (by first | exact Nat.le_of_ble_eq_true rfl | simp [rva_cat, vc_i, vc_r, vc_l, vc_n]) nn0 rfl (pc2 := 73) rfl ?_
    refine e_aload_n dX5_readThing_73 2 rfl rfl (pc2 := 74) rfl ?_
    refine e_aload_n dX5_readThing_74 0 rfl rfl (pc2 := 75) rfl ?_
    refine e_getR (r := 36) fl_X5_9 dX5_readThing_75 so_69 (rs_69_0 s13.2.2) (by decide) (pc2 := 78) rfl ?_
    refine e_iconst (x := 1) dX5_readThing_78 (by decide) (pc2 := 79) rfl ?_
    refine e_bipush (x := 60) dX5_readThing_79 (by decide) (pc2 := 81) rfl ?_
    obtain ⟨y14, s15, hy14, hf⟩ := bnd2_s hf
    refine e_callVs (t_X8_takeNumber 1 60 s13 hy14) dX5_readThing_81 cv_X5_112 rfl so_36 rc_8 (by decide) (by first | exact Nat.le_of_ble_eq_true rfl | simp [rva_cat, vc_i, vc_r, vc_l, vc_n]) nn0 rfl (pc2 := 84) rfl ?_
    obtain ⟨s16, es16, hf⟩ := ltb_s hf
    refine e_putI fl_X5_209 dX5_readThing_84 (okX9_o ho3) fn_9_2 (h2 := hp s16) (by rw [es16]; rfl) (pc2 := 87) rfl ?_
    refine e_aload_n dX5_readThing_87 0 rfl rfl (pc2 := 88) rfl ?_
    refine e_getR (r := 36) fl_X5_9 dX5_readThing_88 so_69 (rs_69_0 s16.2.2) (by decide) (pc2 := 91) rfl ?_
    refine e_getsE (i := 6) (by decide) dX5_readThing_91 gs_X5_212 (pc2 := 94) rfl ?_
    obtain ⟨s18, hy17, hf⟩ := bnd_s hf
    refine e_callVn (t_X8_take 1006 (by decide) s16 hy17) dX5_readThing_94 cv_X5_122 rfl so_36 rc_8 (by decide) (by first | exact Nat.le_of_ble_eq_true rfl | simp [rva_cat, vc_i, vc_r, vc_l, vc_n]) nn0 rfl (pc2 := 97) rfl ?_
    refine e_aload_n dX5_readThing_97 2 rfl rfl (pc2 := 98) rfl ?_
    refine e_aload_n dX5_readThing_98 0 rfl rfl (pc2 := 99) rfl ?_
    refine e_getR (r := 36) fl_X5_9 dX5_readThing_99 so_69 (rs_69_0 s18.2.2) (by decide) (pc2 := 102) rfl ?_
    refine e_iconst (x := 1) dX5_readThing_102 (by decide) (pc2 := 103) rfl ?_
    refine e_bipush (x := 99) dX5_readThing_103 (by decide) (pc2 := 105) rfl ?_
    obtain ⟨y19, s20, hy19, hf⟩ := bnd2_s hf
    refine e_callVs (t_X8_takeNumber 1 99 s18 hy19) dX5_readThing_105 cv_X5_112 rfl so_36 rc_8 (by decide) (by first | exact Nat.le_of_ble_eq_true rfl | simp [rva_cat, vc_i, vc_r, vc_l, vc_n]) nn0 rfl (pc2 := 108) rfl ?_
    obtain ⟨s21, es21, hf⟩ := ltb_s hf
    refine e_putI fl_X5_215 dX5_readThing_108 (okX9_o ho3) fn_9_3 (h2 := hp s21) (by rw [es21]; rfl) (pc2 := 111) rfl ?_
    refine e_aload_n dX5_readThing_111 0 rfl rfl (pc2 := 112) rfl ?_
    refine e_getR (r := 36) fl_X5_9 dX5_readThing_112 so_69 (rs_69_0 s21.2.2) (by decide) (pc2 := 115) rfl ?_
    refine e_getsE (i := 7) (by decide) dX5_readThing_115 gs_X5_218 (pc2 := 118) rfl ?_
    obtain ⟨s23, hy22, hf⟩ := bnd_s hf
    refine e_callVn (t_X8_take 1007 (by decide) s21 hy22) dX5_readThing_118 cv_X5_122 rfl so_36 rc_8 (by decide) (by first | exact Nat.le_of_ble_eq_true rfl | simp [rva_cat, vc_i, vc_r, vc_l, vc_n]) nn0 rfl (pc2 := 121) rfl ?_
    refine e_aload_n dX5_readThing_121 2 rfl rfl (pc2 := 122) rfl ?_
    refine e_aload_n dX5_readThing_122 0 rfl rfl (pc2 := 123) rfl ?_
    refine e_getR (r := 36) fl_X5_9 dX5_readThing_123 so_69 (rs_69_0 s23.2.2) (by decide) (pc2 := 126) rfl ?_
    refine e_iconst (x := 0) dX5_readThing_126 (by decide) (pc2 := 127) rfl ?_
    refine e_bipush (x := 99) dX5_readThing_127 (by decide) (pc2 := 129) rfl ?_
    obtain ⟨y24, s25, hy24, hf⟩ := bnd2_s hf
    refine e_callVs (t_X8_takeNumber 0 99 s23 hy24) dX5_readThing_129 cv_X5_112 rfl so_36 rc_8 (by decide) (by first | exact Nat.le_of_ble_eq_true rfl | simp [rva_cat, vc_i, vc_r, vc_l, vc_n]) nn0 rfl (pc2 := 132) rfl ?_
    obtain ⟨s26, es26, hf⟩ := ltb_s hf
    refine e_putI fl_X5_221 dX5_readThing_132 (okX9_o ho3) fn_9_4 (h2 := hp s26) (by rw [es26]; rfl) (pc2 := 135) rfl ?_
    refine e_aload_n dX5_readThing_135 0 rfl rfl (pc2 := 136) rfl ?_
    refine e_getR (r := 36) fl_X5_9 dX5_readThing_136 so_69 (rs_69_0 s26.2.2) (by decide) (pc2 := 139) rfl ?_
    refine e_getsE (i := 8) (by decide) dX5_readThing_139 gs_X5_224 (pc2 := 142) rfl ?_
    obtain ⟨s28, hy27, hf⟩ := bnd_s hf
    refine e_callVn (t_X8_take 1008 (by decide) s26 hy27) dX5_readThing_142 cv_X5_122 rfl so_36 rc_8 (by decide) (by first | exact Nat.le_of_ble_eq_true rfl | simp [rva_cat, vc_i, vc_r, vc_l, vc_n]) nn0 rfl (pc2 := 145) rfl ?_
    refine e_aload_n dX5_readThing_145 2 rfl rfl (pc2 := 146) rfl ?_
    refine e_aload_n dX5_readThing_146 0 rfl rfl (pc2 := 147) rfl ?_
    refine e_getR (r := 36) fl_X5_9 dX5_readThing_147 so_69 (rs_69_0 s28.2.2) (by decide) (pc2 := 150) rfl ?_
    refine e_iconst (x := 0) dX5_readThing_150 (by decide) (pc2 := 151) rfl ?_
    refine e_bipush (x := 20) dX5_readThing_151 (by decide) (pc2 := 153) rfl ?_
    obtain ⟨y29, s30, hy29, hf⟩ := bnd2_s hf
    refine e_callVs (t_X8_takeNumber 0 20 s28 hy29) dX5_readThing_153 cv_X5_112 rfl so_36 rc_8 (by decide) (by first | exact Nat.le_of_ble_eq_true rfl | simp [rva_cat, vc_i, vc_r, vc_l, vc_n]) nn0 rfl (pc2 := 156) rfl ?_
    obtain ⟨s31, es31, hf⟩ := ltb_s hf
    refine e_putI fl_X5_227 dX5_readThing_156 (okX9_o ho3) fn_9_5 (h2 := hp s31) (by rw [es31]; rfl) (pc2 := 159) rfl ?_
    refine e_aload_n dX5_readThing_159 1 rfl rfl (pc2 := 160) rfl ?_
    refine e_dup dX5_readThing_160 rfl (pc2 := 161) rfl ?_
    refine e_getI fl_X5_177 dX5_readThing_161 (okX4_o hv1) (by decide) (pc2 := 164) rfl ?_
    refine e_iconst (x := 1) dX5_readThing_164 (by decide) (pc2 := 165) rfl ?_
    refine e_iadd dX5_readThing_165 (pc2 := 166) rfl ?_
    obtain ⟨s32, es32, hf⟩ := ltb_s hf
    refine e_putI fl_X5_177 dX5_readThing_166 (okX4_o hv1) fn_4_12 (h2 := hp s32) (by rw [es32]; rfl) (pc2 := 169) rfl ?_
    cases hf
    exact e_vret rfl dX5_readThing_169
  · have hf := if_f c1 hf
    refine e_aload_n dX5_readThing_8 0 rfl rfl (pc2 := 9) rfl ?_
    refine e_getR (r := 36) fl_X5_9 dX5_readThing_9 so_69 (rs_69_0 s.2.2) (by decide) (pc2 := 12) rfl ?_
    refine e_iconst (x := 5) dX5_readThing_12 (by decide) (pc2 := 13) rfl ?_
    obtain ⟨s34, hy33, hf⟩ := bnd_s hf
    refine e_callVn (t_X8_fail 5 s hy33) dX5_readThing_13 cv_X5_77 rfl so_36 rc_8 (by decide) (by first | exact Nat.le_of_ble_eq_true rfl | simp [rva_cat, vc_i, vc_r, vc_l, vc_n]) nn0 rfl (pc2 := 16) rfl ?_
    cases hf
    exact e_vret rfl dX5_readThing_16
