abbrev DDX2_value : Nat := 1
def f_X2_value_j358 (v0 : Nat) (v1 : Int32) (v2 : Int32) (v3 : Int32) (v4 : Int32) (v5 : Int32) (v6 : Int32) (k6 : Int32 → Int32 → HS → Option (Int32 × HS)) (s : HS) : Option (Int32 × HS) :=
  ltb (v6 + 1) fun x7 => k6 v5 x7 s
set_option maxRecDepth 20000 in
set_option maxHeartbeats 2000000 in
theorem t_X2_value_j358 (v0 : Nat) (v1 : Int32) (v2 : Int32) (v3 : Int32) (v4 : Int32) (v5 : Int32) (v6 : Int32) (hv0 : okX2 v0 = true) (s : HS) {x : Int32} {t : HS} (k6 : Int32 → Int32 → HS → Option (Int32 × HS)) (hk6 : ∀ (a5 : Int32) (a6 : Int32) (s : HS), k6 a5 a6 s = some (x, t) → Ev DDX2_value miX2_value NF (some (.int x)) NF (hp t) 6 NF [(0, .ref v0), (1, .int v1), (2, .int v2), (3, .int v3), (4, .int v4), (5, .int a5), (6, .int a6)] [] (hp s)) (hf : f_X2_value_j358 v0 v1 v2 v3 v4 v5 v6 k6 s = some (x, t)) : Ev DDX2_value miX2_value NF (some (.int x)) NF (hp t) 358 NF [(0, .ref v0), (1, .int v1), (2, .int v2), (3, .int v3), (4, .int v4), (5, .int v5), (6, .int v6)] [] (hp s) := by
  obtain ⟨x7, ex7, hf⟩ := ltb_s hf
  refine e_iinc dX2_value_358 6 rfl (c9 := 1) (by decide) ex7.symm (by decide) (ls' := [(0, .ref v0), (1, .int v1), (2, .int v2), (3, .int v3), (4, .int v4), (5, .int v5), (6, .int x7)]) [1, 2, 3, 4, 5, 6, 0] rfl (pc2 := 361) rfl ?_
  refine e_goto (tgt := 6) dX2_value_361 (by decide) ?_
  exact hk6 v5 x7 s hf
def f_X2_value_l6b (v0 : Nat) (v1 : Int32) (v2 : Int32) (v3 : Int32) (v4 : Int32) (v5 : Int32) (v6 : Int32) (k6 : Int32 → Int32 → HS → Option (Int32 × HS)) (k364 : Int32 → HS → Option (Int32 × HS)) (s : HS) : Option (Int32 × HS) :=
  (if (s.1 v0 1) ≤ v6 then k364 v5 s else gd (inb v6 1000) (ltb (s.1 (Rf v0 0) v6.toNatClampNeg) fun x3 => (if x3 < (-4) then (if x3 = (-5) then (if v5 ≤ 0 then f_X2_value_j358 v0 v1 v2 v3 v4 v5 v6 k6 s else gd (inb (v5 - 1) 32) ((if (s.1 (Rf v0 2) (v5 - 1).toNatClampNeg) = 0 then gd (inb (v5 - 1) 32) (ltb (sI s (Rf v0 2) ((v5 - 1).toNatClampNeg) 1) fun s56 => f_X2_value_j358 v0 v1 v2 v3 v4 v5 v6 k6 s56) else gd (inb (v5 - 1) 32) (ltb (sI s (Rf v0 2) ((v5 - 1).toNatClampNeg) 0) fun s54 => f_X2_value_j358 v0 v1 v2 v3 v4 v5 v6 k6 s54)))) else (if v5 ≤ 1 then f_X2_value_j358 v0 v1 v2 v3 v4 v5 v6 k6 s else ltb (v5 + (-1)) fun x8 => gd (inb (x8 - 1) 32) (ltb (s.1 (Rf v0 2) (x8 - 1).toNatClampNeg) fun x10 => gd (inb x8 32) (ltb (s.1 (Rf v0 2) x8.toNatClampNeg) fun x12 => (if x3 = (-11) then gd (inb (x8 - 1) 32) (ltb (sI s (Rf v0 2) ((x8 - 1).toNatClampNeg) (x10 - x12)) fun s14 => f_X2_value_j358 v0 v1 v2 v3 v4 x8 v6 k6 s14) else if x3 = (-10) then gd (inb (x8 - 1) 32) (ltb (sI s (Rf v0 2) ((x8 - 1).toNatClampNeg) (x10 + x12)) fun s17 => f_X2_value_j358 v0 v1 v2 v3 v4 x8 v6 k6 s17) else if x3 = (-9) then (if x10 = x12 then gd (inb (x8 - 1) 32) (ltb (sI s (Rf v0 2) ((x8 - 1).toNatClampNeg) 1) fun s23 => f_X2_value_j358 v0 v1 v2 v3 v4 x8 v6 k6 s23) else gd (inb (x8 - 1) 32) (ltb (sI s (Rf v0 2) ((x8 - 1).toNatClampNeg) 0) fun s21 => f_X2_value_j358 v0 v1 v2 v3 v4 x8 v6 k6 s21)) else if x3 = (-8) then (if x12 ≤ x10 then gd (inb (x8 - 1) 32) (ltb (sI s (Rf v0 2) ((x8 - 1).toNatClampNeg) 0) fun s27 => f_X2_value_j358 v0 v1 v2 v3 v4 x8 v6 k6 s27) else gd (inb (x8 - 1) 32) (ltb (sI s (Rf v0 2) ((x8 - 1).toNatClampNeg) 1) fun s29 => f_X2_value_j358 v0 v1 v2 v3 v4 x8 v6 k6 s29)) else if x3 = (-7) then (if x10 = 0 then (if x12 = 0 then gd (inb (x8 - 1) 32) (ltb (sI s (Rf v0 2) ((x8 - 1).toNatClampNeg) 0) fun s36 => f_X2_value_j358 v0 v1 v2 v3 v4 x8 v6 k6 s36) else gd (inb (x8 - 1) 32) (ltb (sI s (Rf v0 2) ((x8 - 1).toNatClampNeg) 1) fun s38 => f_X2_value_j358 v0 v1 v2 v3 v4 x8 v6 k6 s38)) else gd (inb (x8 - 1) 32) (ltb (sI s (Rf v0 2) ((x8 - 1).toNatClampNeg) 1) fun s33 => f_X2_value_j358 v0 v1 v2 v3 v4 x8 v6 k6 s33)) else if x3 = (-6) then (if x10 = 0 then gd (inb (x8 - 1) 32) (ltb (sI s (Rf v0 2) ((x8 - 1).toNatClampNeg) 0) fun s42 => f_X2_value_j358 v0 v1 v2 v3 v4 x8 v6 k6 s42) else (if x12 = 0 then gd (inb (x8 - 1) 32) (ltb (sI s (Rf v0 2) ((x8 - 1).toNatClampNeg) 0) fun s45 => f_X2_value_j358 v0 v1 v2 v3 v4 x8 v6 k6 s45) else gd (inb (x8 - 1) 32) (ltb (sI s (Rf v0 2) ((x8 - 1).toNatClampNeg) 1) fun s47 => f_X2_value_j358 v0 v1 v2 v3 v4 x8 v6 k6 s47))) else gd (inb (x8 - 1) 32) (ltb (sI s (Rf v0 2) ((x8 - 1).toNatClampNeg) (x10 * x12)) fun s49 => f_X2_value_j358 v0 v1 v2 v3 v4 x8 v6 k6 s49)))))) else (if 32 ≤ v5 then f_X2_value_j358 v0 v1 v2 v3 v4 v5 v6 k6 s else (if x3 < 0 then (if x3 = (-1) then gd (inb v5 32) (ltb (sI s (Rf v0 2) (v5.toNatClampNeg) v1) fun s72 => ltb (v5 + 1) fun x74 => f_X2_value_j358 v0 v1 v2 v3 v4 x74 v6 k6 s72) else (if x3 = (-2) then gd (inb v5 32) (ltb (sI s (Rf v0 2) (v5.toNatClampNeg) v2) fun s69 => ltb (v5 + 1) fun x71 => f_X2_value_j358 v0 v1 v2 v3 v4 x71 v6 k6 s69) else (if x3 = (-3) then gd (inb v5 32) (ltb (sI s (Rf v0 2) (v5.toNatClampNeg) v3) fun s66 => ltb (v5 + 1) fun x68 => f_X2_value_j358 v0 v1 v2 v3 v4 x68 v6 k6 s66) else gd (inb v5 32) (ltb (sI s (Rf v0 2) (v5.toNatClampNeg) v4) fun s63 => ltb (v5 + 1) fun x65 => f_X2_value_j358 v0 v1 v2 v3 v4 x65 v6 k6 s63)))) else gd (inb v5 32) (ltb (sI s (Rf v0 2) (v5.toNatClampNeg) x3) fun s75 => ltb (v5 + 1) fun x77 => f_X2_value_j358 v0 v1 v2 v3 v4 x77 v6 k6 s75))))))
set_option maxRecDepth 20000 in
set_option maxHeartbeats 2000000 in
theorem t_X2_value_l6b (v0 : Nat) (v1 : Int32) (v2 : Int32) (v3 : Int32) (v4 : Int32) (v5 : Int32) (v6 : Int32) (hv0 : okX2 v0 = true) (s : HS) {x : Int32} {t : HS} (k6 : Int32 → Int32 → HS → Option (Int32 × HS)) (hk6 : ∀ (a5 : Int32) (a6 : Int32) (s : HS), k6 a5 a6 s = some (x, t) → Ev DDX2_value miX2_value NF (some (.int x)) NF (hp t) 6 NF [(0, .ref v0), (1, .int v1), (2, .int v2), (3, .int v3), (4, .int v4), (5, .int a5), (6, .int a6)] [] (hp s)) (k364 : Int32 → HS → Option (Int32 × HS)) (hk364 : ∀ (a5 : Int32) (s : HS), k364 a5 s = some (x, t) → Ev DDX2_value miX2_value NF (some (.int x)) NF (hp t) 364 NF [(0, .ref v0), (5, .int a5)] [] (hp s)) (hf : f_X2_value_l6b v0 v1 v2 v3 v4 v5 v6 k6 k364 s = some (x, t)) : Ev DDX2_value miX2_value NF (some (.int x)) NF (hp t) 6 NF [(0, .ref v0), (1, .int v1), (2, .int v2), (3, .int v3), (4, .int v4), (5, .int v5), (6, .int v6)] [] (hp s) := by
  refine e_iload dX2_value_6 6 rfl (pc2 := 8) rfl ?_
  refine e_aload_n dX2_value_8 0 rfl rfl (pc2 := 9) rfl ?_
  refine e_getI fl_X2_18 dX2_value_9 (okX2_o hv0) (by decide) (pc2 := 12) rfl ?_
  refine e_icmp_ge (tgt := 364) dX2_value_12 (by decide) (pc2 := 15) rfl (fun c1 => ?_) (fun c1 => ?_)
  · have hf := if_t c1 hf
    refine ev_sub [0, 5] rfl ?_
    exact hk364 v5 s hf
  · have hf := if_f c1 hf
    refine e_aload_n dX2_value_15 0 rfl rfl (pc2 := 16) rfl ?_
    refine e_getR (r := Rf v0 0) fl_X2_9 dX2_value_16 (okX2_o hv0) (okX2_R hv0) (isA_ne (okX2_code hv0)) (pc2 := 19) rfl ?_
    refine e_iload dX2_value_19 6 rfl (pc2 := 21) rfl ?_
    obtain ⟨g2, hf⟩ := gd_some hf
    refine e_iald dX2_value_21 (okX2_code hv0) (inb_v g2) (pc2 := 22) rfl ?_
    obtain ⟨x3, ex3, hf⟩ := ltb_s hf
    refine e_istore dX2_value_22 (by decide) ex3.symm (ls' := [(0, .ref v0), (1, .int v1), (2, .int v2), (3, .int v3), (4, .int v4), (5, .int v5), (6, .int v6), (7, .int x3)]) [1, 2, 3, 4, 5, 6, 7, 0] rfl (pc2 := 24) rfl ?_
    refine e_iload dX2_value_24 7 rfl (pc2 := 26) rfl ?_
    refine e_bipush (x := (-4)) dX2_value_26 (by decide) (pc2 := 28) rfl ?_
    refine e_icmp_lt (tgt := 98) dX2_value_28 (by decide) (pc2 := 31) rfl (fun c4 => ?_) (fun c4 => ?_)
    · have hf := if_t c4 hf
      refine e_iload dX2_value_98 7 rfl (pc2 := 100) rfl ?_
      refine e_bipush (x := (-5)) dX2_value_100 (by decide) (pc2 := 102) rfl ?_
      refine e_icmp_ne (tgt := 139) dX2_value_102 (by decide) (pc2 := 105) rfl (fun c5 => ?_) (fun c5 => ?_)
      · have hf := if_f c5 hf
        refine e_iload dX2_value_139 5 rfl (pc2 := 141) rfl ?_
        refine e_iconst (x := 1) dX2_value_141 (by decide) (pc2 := 142) rfl ?_
        refine e_icmp_le (tgt := 358) dX2_value_142 (by decide) (pc2 := 145) rfl (fun c6 => ?_) (fun c6 => ?_)
        · have hf := if_t c6 hf
          refine ev_sub [0, 1, 2, 3, 4, 5, 6] rfl ?_
          exact t_X2_value_j358 v0 v1 v2 v3 v4 v5 v6 hv0 s _ hk6 hf
        · have hf := if_f c6 hf
          obtain ⟨x8, ex8, hf⟩ := ltb_s hf
          refine e_iinc dX2_value_145 5 rfl (c9 := (-1)) (by decide) ex8.symm (by decide) (ls' := [(0, .ref v0), (1, .int v1), (2, .int v2), (3, .int v3), (4, .int v4), (5, .int x8), (6, .int v6), (7, .int x3)]) [1, 2, 3, 4, 5, 0, 6, 7] rfl (pc2 := 148) rfl ?_
          refine e_aload_n dX2_value_148 0 rfl rfl (pc2 := 149) rfl ?_
          refine e_getR (r := Rf v0 2) fl_X2_15 dX2_value_149 (okX2_o hv0) (okX2_R hv0) (isA_ne (okX2_pile hv0)) (pc2 := 152) rfl ?_
          refine e_iload dX2_value_152 5 rfl (pc2 := 154) rfl ?_
          refine e_iconst (x := 1) dX2_value_154 (by decide) (pc2 := 155) rfl ?_
          refine e_isub dX2_value_155 (pc2 := 156) rfl ?_
          obtain ⟨g9, hf⟩ := gd_some hf
          refine e_iald dX2_value_156 (okX2_pile hv0) (inb_v g9) (pc2 := 157) rfl ?_
          obtain ⟨x10, ex10, hf⟩ := ltb_s hf
          refine e_istore dX2_value_157 (by decide) ex10.symm (ls' := [(0, .ref v0), (1, .int v1), (2, .int v2), (3, .int v3), (4, .int v4), (5, .int x8), (6, .int v6), (7, .int x3), (8, .int x10)]) [1, 2, 3, 4, 5, 6, 7, 8, 0] rfl (pc2 := 159) rfl ?_
          refine e_aload_n dX2_value_159 0 rfl rfl (pc2 := 160) rfl ?_
          refine e_getR (r := Rf v0 2) fl_X2_15 dX2_value_160 (okX2_o hv0) (okX2_R hv0) (isA_ne (okX2_pile hv0)) (pc2 := 163) rfl ?_
          refine e_iload dX2_value_163 5 rfl (pc2 := 165) rfl ?_
          obtain ⟨g11, hf⟩ := gd_some hf
          refine e_iald dX2_value_165 (okX2_pile hv0) (inb_v g11) (pc2 := 166) rfl ?_
          obtain ⟨x12, ex12, hf⟩ := ltb_s hf
          refine e_istore dX2_value_166 (by decide) ex12.symm (ls' := [(0, .ref v0), (1, .int v1), (2, .int v2), (3, .int v3), (4, .int v4), (5, .int x8), (6, .int v6), (7, .int x3), (8, .int x10), (9, .int x12)]) [1, 2, 3, 4, 5, 6, 7, 8, 9, 0] rfl (pc2 := 168) rfl ?_
          refine e_iload dX2_value_168 7 rfl (pc2 := 170) rfl ?_
          by_cases c13 : x3 = (-11)
          · have hf := if_t c13 hf
            rw [c13]
            refine e_tableIn (tgt := 327) dX2_value_170 (by decide) (by decide) rfl (by decide) ?_
            refine e_aload_n dX2_value_327 0 rfl rfl (pc2 := 328) rfl ?_
            refine e_getR (r := Rf v0 2) fl_X2_15 dX2_value_328 (okX2_o hv0) (okX2_R hv0) (isA_ne (okX2_pile hv0)) (pc2 := 331) rfl ?_
            refine e_iload dX2_value_331 5 rfl (pc2 := 333) rfl ?_
            refine e_iconst (x := 1) dX2_value_333 (by decide) (pc2 := 334) rfl ?_
            refine e_isub dX2_value_334 (pc2 := 335) rfl ?_
            refine e_iload dX2_value_335 8 rfl (pc2 := 337) rfl ?_
            refine e_iload dX2_value_337 9 rfl (pc2 := 339) rfl ?_
            refine e_isub dX2_value_339 (pc2 := 340) rfl ?_
            obtain ⟨g15, hf⟩ := gd_some hf
            obtain ⟨s14, es14, hf⟩ := ltb_s hf
            refine e_iast dX2_value_340 (okX2_pile hv0) (inb_v g15) (h2 := hp s14) (by rw [es14]; rfl) (pc2 := 341) rfl ?_
            refine e_goto (tgt := 358) dX2_value_341 (by decide) ?_
            refine ev_sub [0, 1, 2, 3, 4, 5, 6] rfl ?_
            exact t_X2_value_j358 v0 v1 v2 v3 v4 x8 v6 hv0 s14 _ hk6 hf
          have hf := if_f c13 hf
          by_cases c16 : x3 = (-10)
          · have hf := if_t c16 hf
            rw [c16]
            refine e_tableIn (tgt := 310) dX2_value_170 (by decide) (by decide) rfl (by decide) ?_
            refine e_aload_n dX2_value_310 0 rfl rfl (pc2 := 311) rfl ?_
            refine e_getR (r := Rf v0 2) fl_X2_15 dX2_value_311 (okX2_o hv0) (okX2_R hv0) (isA_ne (okX2_pile hv0)) (pc2 := 314) rfl ?_
            refine e_iload dX2_value_314 5 rfl (pc2 := 316) rfl ?_
            refine e_iconst (x := 1) dX2_value_316 (by decide) (pc2 := 317) rfl ?_
            refine e_isub dX2_value_317 (pc2 := 318) rfl ?_
            refine e_iload dX2_value_318 8 rfl (pc2 := 320) rfl ?_
            refine e_iload dX2_value_320 9 rfl (pc2 := 322) rfl ?_
            refine e_iadd dX2_value_322 (pc2 := 323) rfl ?_
            obtain ⟨g18, hf⟩ := gd_some hf
            obtain ⟨s17, es17, hf⟩ := ltb_s hf
            refine e_iast dX2_value_323 (okX2_pile hv0) (inb_v g18) (h2 := hp s17) (by rw [es17]; rfl) (pc2 := 324) rfl ?_
            refine e_goto (tgt := 358) dX2_value_324 (by decide) ?_
            refine ev_sub [0, 1, 2, 3, 4, 5, 6] rfl ?_
            exact t_X2_value_j358 v0 v1 v2 v3 v4 x8 v6 hv0 s17 _ hk6 hf
          have hf := if_f c16 hf
          by_cases c19 : x3 = (-9)
          · have hf := if_t c19 hf
            rw [c19]
            refine e_tableIn (tgt := 286) dX2_value_170 (by decide) (by decide) rfl (by decide) ?_
            refine e_aload_n dX2_value_286 0 rfl rfl (pc2 := 287) rfl ?_
            refine e_getR (r := Rf v0 2) fl_X2_15 dX2_value_287 (okX2_o hv0) (okX2_R hv0) (isA_ne (okX2_pile hv0)) (pc2 := 290) rfl ?_
            refine e_iload dX2_value_290 5 rfl (pc2 := 292) rfl ?_
            refine e_iconst (x := 1) dX2_value_292 (by decide) (pc2 := 293) rfl ?_
            refine e_isub dX2_value_293 (pc2 := 294) rfl ?_
            refine e_iload dX2_value_294 8 rfl (pc2 := 296) rfl ?_
            refine e_iload dX2_value_296 9 rfl (pc2 := 298) rfl ?_
            refine e_icmp_ne (tgt := 305) dX2_value_298 (by decide) (pc2 := 301) rfl (fun c20 => ?_) (fun c20 => ?_)
            · have hf := if_f c20 hf
              refine e_iconst (x := 0) dX2_value_305 (by decide) (pc2 := 306) rfl ?_
              obtain ⟨g22, hf⟩ := gd_some hf
              obtain ⟨s21, es21, hf⟩ := ltb_s hf
              refine e_iast dX2_value_306 (okX2_pile hv0) (inb_v g22) (h2 := hp s21) (by rw [es21]; rfl) (pc2 := 307) rfl ?_
              refine e_goto (tgt := 358) dX2_value_307 (by decide) ?_
              refine ev_sub [0, 1, 2, 3, 4, 5, 6] rfl ?_
              exact t_X2_value_j358 v0 v1 v2 v3 v4 x8 v6 hv0 s21 _ hk6 hf
            · have hf := if_t c20 hf
              refine e_iconst (x := 1) dX2_value_301 (by decide) (pc2 := 302) rfl ?_
              refine e_goto (tgt := 306) dX2_value_302 (by decide) ?_
              obtain ⟨g24, hf⟩ := gd_some hf
              obtain ⟨s23, es23, hf⟩ := ltb_s hf
              refine e_iast dX2_value_306 (okX2_pile hv0) (inb_v g24) (h2 := hp s23) (by rw [es23]; rfl) (pc2 := 307) rfl ?_
              refine e_goto (tgt := 358) dX2_value_307 (by decide) ?_
              refine ev_sub [0, 1, 2, 3, 4, 5, 6] rfl ?_
              exact t_X2_value_j358 v0 v1 v2 v3 v4 x8 v6 hv0 s23 _ hk6 hf
          have hf := if_f c19 hf
          by_cases c25 : x3 = (-8)
          · have hf := if_t c25 hf
            rw [c25]
            refine e_tableIn (tgt := 262) dX2_value_170 (by decide) (by decide) rfl (by decide) ?_
            refine e_aload_n dX2_value_262 0 rfl rfl (pc2 := 263) rfl ?_
            refine e_getR (r := Rf v0 2) fl_X2_15 dX2_value_263 (okX2_o hv0) (okX2_R hv0) (isA_ne (okX2_pile hv0)) (pc2 := 266) rfl ?_
            refine e_iload dX2_value_266 5 rfl (pc2 := 268) rfl ?_
            refine e_iconst (x := 1) dX2_value_268 (by decide) (pc2 := 269) rfl ?_
            refine e_isub dX2_value_269 (pc2 := 270) rfl ?_
            refine e_iload dX2_value_270 8 rfl (pc2 := 272) rfl ?_
            refine e_iload dX2_value_272 9 rfl (pc2 := 274) rfl ?_
            refine e_icmp_ge (tgt := 281) dX2_value_274 (by decide) (pc2 := 277) rfl (fun c26 => ?_) (fun c26 => ?_)
            · have hf := if_t c26 hf
              refine e_iconst (x := 0) dX2_value_281 (by decide) (pc2 := 282) rfl ?_
              obtain ⟨g28, hf⟩ := gd_some hf
              obtain ⟨s27, es27, hf⟩ := ltb_s hf
              refine e_iast dX2_value_282 (okX2_pile hv0) (inb_v g28) (h2 := hp s27) (by rw [es27]; rfl) (pc2 := 283) rfl ?_
              refine e_goto (tgt := 358) dX2_value_283 (by decide) ?_
              refine ev_sub [0, 1, 2, 3, 4, 5, 6] rfl ?_
              exact t_X2_value_j358 v0 v1 v2 v3 v4 x8 v6 hv0 s27 _ hk6 hf
            · have hf := if_f c26 hf
              refine e_iconst (x := 1) dX2_value_277 (by decide) (pc2 := 278) rfl ?_
              refine e_goto (tgt := 282) dX2_value_278 (by decide) ?_
              obtain ⟨g30, hf⟩ := gd_some hf
              obtain ⟨s29, es29, hf⟩ := ltb_s hf
              refine e_iast dX2_value_282 (okX2_pile hv0) (inb_v g30) (h2 := hp s29) (by rw [es29]; rfl) (pc2 := 283) rfl ?_
              refine e_goto (tgt := 358) dX2_value_283 (by decide) ?_
              refine ev_sub [0, 1, 2, 3, 4, 5, 6] rfl ?_
              exact t_X2_value_j358 v0 v1 v2 v3 v4 x8 v6 hv0 s29 _ hk6 hf
          have hf := if_f c25 hf
          by_cases c31 : x3 = (-7)
          · have hf := if_t c31 hf
            rw [c31]
            refine e_tableIn (tgt := 235) dX2_value_170 (by decide) (by decide) rfl (by decide) ?_
            refine e_aload_n dX2_value_235 0 rfl rfl (pc2 := 236) rfl ?_
            refine e_getR (r := Rf v0 2) fl_X2_15 dX2_value_236 (okX2_o hv0) (okX2_R hv0) (isA_ne (okX2_pile hv0)) (pc2 := 239) rfl ?_
            refine e_iload dX2_value_239 5 rfl (pc2 := 241) rfl ?_
            refine e_iconst (x := 1) dX2_value_241 (by decide) (pc2 := 242) rfl ?_
            refine e_isub dX2_value_242 (pc2 := 243) rfl ?_
            refine e_iload dX2_value_243 8 rfl (pc2 := 245) rfl ?_
            refine e_if_ne (tgt := 253) dX2_value_245 (by decide) (pc2 := 248) rfl (fun c32 => ?_) (fun c32 => ?_)
            · have hf := if_f c32 hf
              refine e_iconst (x := 1) dX2_value_253 (by decide) (pc2 := 254) rfl ?_
              refine e_goto (tgt := 258) dX2_value_254 (by decide) ?_
              obtain ⟨g34, hf⟩ := gd_some hf
              obtain ⟨s33, es33, hf⟩ := ltb_s hf
              refine e_iast dX2_value_258 (okX2_pile hv0) (inb_v g34) (h2 := hp s33) (by rw [es33]; rfl) (pc2 := 259) rfl ?_
              refine e_goto (tgt := 358) dX2_value_259 (by decide) ?_
              refine ev_sub [0, 1, 2, 3, 4, 5, 6] rfl ?_
              exact t_X2_value_j358 v0 v1 v2 v3 v4 x8 v6 hv0 s33 _ hk6 hf
            · have hf := if_t c32 hf
              refine e_iload dX2_value_248 9 rfl (pc2 := 250) rfl ?_
              refine e_if_eq (tgt := 257) dX2_value_250 (by decide) (pc2 := 253) rfl (fun c35 => ?_) (fun c35 => ?_)
              · have hf := if_t c35 hf
                refine e_iconst (x := 0) dX2_value_257 (by decide) (pc2 := 258) rfl ?_
                obtain ⟨g37, hf⟩ := gd_some hf
                obtain ⟨s36, es36, hf⟩ := ltb_s hf
                refine e_iast dX2_value_258 (okX2_pile hv0) (inb_v g37) (h2 := hp s36) (by rw [es36]; rfl) (pc2 := 259) rfl ?_
                refine e_goto (tgt := 358) dX2_value_259 (by decide) ?_
                refine ev_sub [0, 1, 2, 3, 4, 5, 6] rfl ?_
                exact t_X2_value_j358 v0 v1 v2 v3 v4 x8 v6 hv0 s36 _ hk6 hf
              · have hf := if_f c35 hf
                refine e_iconst (x := 1) dX2_value_253 (by decide) (pc2 := 254) rfl ?_
                refine e_goto (tgt := 258) dX2_value_254 (by decide) ?_
                obtain ⟨g39, hf⟩ := gd_some hf
                obtain ⟨s38, es38, hf⟩ := ltb_s hf
                refine e_iast dX2_value_258 (okX2_pile hv0) (inb_v g39) (h2 := hp s38) (by rw [es38]; rfl) (pc2 := 259) rfl ?_
                refine e_goto (tgt := 358) dX2_value_259 (by decide) ?_
                refine ev_sub [0, 1, 2, 3, 4, 5, 6] rfl ?_
                exact t_X2_value_j358 v0 v1 v2 v3 v4 x8 v6 hv0 s38 _ hk6 hf
          have hf := if_f c31 hf
          by_cases c40 : x3 = (-6)
          · have hf := if_t c40 hf
            rw [c40]
            refine e_tableIn (tgt := 208) dX2_value_170 (by decide) (by decide) rfl (by decide) ?_
            refine e_aload_n dX2_value_208 0 rfl rfl (pc2 := 209) rfl ?_
            refine e_getR (r := Rf v0 2) fl_X2_15 dX2_value_209 (okX2_o hv0) (okX2_R hv0) (isA_ne (okX2_pile hv0)) (pc2 := 212) rfl ?_
            refine e_iload dX2_value_212 5 rfl (pc2 := 214) rfl ?_
            refine e_iconst (x := 1) dX2_value_214 (by decide) (pc2 := 215) rfl ?_
            refine e_isub dX2_value_215 (pc2 := 216) rfl ?_
            refine e_iload dX2_value_216 8 rfl (pc2 := 218) rfl ?_
            refine e_if_eq (tgt := 230) dX2_value_218 (by decide) (pc2 := 221) rfl (fun c41 => ?_) (fun c41 => ?_)
            · have hf := if_t c41 hf
              refine e_iconst (x := 0) dX2_value_230 (by decide) (pc2 := 231) rfl ?_
              obtain ⟨g43, hf⟩ := gd_some hf
              obtain ⟨s42, es42, hf⟩ := ltb_s hf
              refine e_iast dX2_value_231 (okX2_pile hv0) (inb_v g43) (h2 := hp s42) (by rw [es42]; rfl) (pc2 := 232) rfl ?_
              refine e_goto (tgt := 358) dX2_value_232 (by decide) ?_
              refine ev_sub [0, 1, 2, 3, 4, 5, 6] rfl ?_
              exact t_X2_value_j358 v0 v1 v2 v3 v4 x8 v6 hv0 s42 _ hk6 hf
            · have hf := if_f c41 hf
              refine e_iload dX2_value_221 9 rfl (pc2 := 223) rfl ?_
              refine e_if_eq (tgt := 230) dX2_value_223 (by decide) (pc2 := 226) rfl (fun c44 => ?_) (fun c44 => ?_)
              · have hf := if_t c44 hf
                refine e_iconst (x := 0) dX2_value_230 (by decide) (pc2 := 231) rfl ?_
                obtain ⟨g46, hf⟩ := gd_some hf
                obtain ⟨s45, es45, hf⟩ := ltb_s hf
                refine e_iast dX2_value_231 (okX2_pile hv0) (inb_v g46) (h2 := hp s45) (by rw [es45]; rfl) (pc2 := 232) rfl ?_
                refine e_goto (tgt := 358) dX2_value_232 (by decide) ?_
                refine ev_sub [0, 1, 2, 3, 4, 5, 6] rfl ?_
                exact t_X2_value_j358 v0 v1 v2 v3 v4 x8 v6 hv0 s45 _ hk6 hf
              · have hf := if_f c44 hf
                refine e_iconst (x := 1) dX2_value_226 (by decide) (pc2 := 227) rfl ?_
                refine e_goto (tgt := 231) dX2_value_227 (by decide) ?_
                obtain ⟨g48, hf⟩ := gd_some hf
                obtain ⟨s47, es47, hf⟩ := ltb_s hf
                refine e_iast dX2_value_231 (okX2_pile hv0) (inb_v g48) (h2 := hp s47) (by rw [es47]; rfl) (pc2 := 232) rfl ?_
                refine e_goto (tgt := 358) dX2_value_232 (by decide) ?_
                refine ev_sub [0, 1, 2, 3, 4, 5, 6] rfl ?_
                exact t_X2_value_j358 v0 v1 v2 v3 v4 x8 v6 hv0 s47 _ hk6 hf
          have hf := if_f c40 hf
          refine e_tableOut (tgt := 344) dX2_value_170 ?_ (by decide) ?_
          · have q0 := lv_neT (a := (-11)) c13 (by decide)
            have q1 := lv_neT (a := (-10)) c16 (by decide)
            have q2 := lv_neT (a := (-9)) c19 (by decide)
            have q3 := lv_neT (a := (-8)) c25 (by decide)
            have q4 := lv_neT (a := (-7)) c31 (by decide)
            have q5 := lv_neT (a := (-6)) c40 (by decide)
            omega
          refine e_aload_n dX2_value_344 0 rfl rfl (pc2 := 345) rfl ?_
          refine e_getR (r := Rf v0 2) fl_X2_15 dX2_value_345 (okX2_o hv0) (okX2_R hv0) (isA_ne (okX2_pile hv0)) (pc2 := 348) rfl ?_
          refine e_iload dX2_value_348 5 rfl (pc2 := 350) rfl ?_
          refine e_iconst (x := 1) dX2_value_350 (by decide) (pc2 := 351) rfl ?_
          refine e_isub dX2_value_351 (pc2 := 352) rfl ?_
          refine e_iload dX2_value_352 8 rfl (pc2 := 354) rfl ?_
          refine e_iload dX2_value_354 9 rfl (pc2 := 356) rfl ?_
          refine e_imul dX2_value_356 (pc2 := 357) rfl ?_
          obtain ⟨g50, hf⟩ := gd_some hf
          obtain ⟨s49, es49, hf⟩ := ltb_s hf
          refine e_iast dX2_value_357 (okX2_pile hv0) (inb_v g50) (h2 := hp s49) (by rw [es49]; rfl) (pc2 := 358) rfl ?_
          refine ev_sub [0, 1, 2, 3, 4, 5, 6] rfl ?_
          exact t_X2_value_j358 v0 v1 v2 v3 v4 x8 v6 hv0 s49 _ hk6 hf
      · have hf := if_t c5 hf
        refine e_iload dX2_value_105 5 rfl (pc2 := 107) rfl ?_
        refine e_if_le (tgt := 358) dX2_value_107 (by decide) (pc2 := 110) rfl (fun c51 => ?_) (fun c51 => ?_)
        · have hf := if_t c51 hf
          refine ev_sub [0, 1, 2, 3, 4, 5, 6] rfl ?_
          exact t_X2_value_j358 v0 v1 v2 v3 v4 v5 v6 hv0 s _ hk6 hf
        · have hf := if_f c51 hf
          refine e_aload_n dX2_value_110 0 rfl rfl (pc2 := 111) rfl ?_
          refine e_getR (r := Rf v0 2) fl_X2_15 dX2_value_111 (okX2_o hv0) (okX2_R hv0) (isA_ne (okX2_pile hv0)) (pc2 := 114) rfl ?_
          refine e_iload dX2_value_114 5 rfl (pc2 := 116) rfl ?_
          refine e_iconst (x := 1) dX2_value_116 (by decide) (pc2 := 117) rfl ?_
          refine e_isub dX2_value_117 (pc2 := 118) rfl ?_
          refine e_aload_n dX2_value_118 0 rfl rfl (pc2 := 119) rfl ?_
          refine e_getR (r := Rf v0 2) fl_X2_15 dX2_value_119 (okX2_o hv0) (okX2_R hv0) (isA_ne (okX2_pile hv0)) (pc2 := 122) rfl ?_
          refine e_iload dX2_value_122 5 rfl (pc2 := 124) rfl ?_
          refine e_iconst (x := 1) dX2_value_124 (by decide) (pc2 := 125) rfl ?_
          refine e_isub dX2_value_125 (pc2 := 126) rfl ?_
          obtain ⟨g52, hf⟩ := gd_some hf
          refine e_iald dX2_value_126 (okX2_pile hv0) (inb_v g52) (pc2 := 127) rfl ?_
          refine e_if_ne (tgt := 134) dX2_value_127 (by decide) (pc2 := 130) rfl (fun c53 => ?_) (fun c53 => ?_)
          · have hf := if_f c53 hf
            refine e_iconst (x := 0) dX2_value_134 (by decide) (pc2 := 135) rfl ?_
            obtain ⟨g55, hf⟩ := gd_some hf
            obtain ⟨s54, es54, hf⟩ := ltb_s hf
            refine e_iast dX2_value_135 (okX2_pile hv0) (inb_v g55) (h2 := hp s54) (by rw [es54]; rfl) (pc2 := 136) rfl ?_
            refine e_goto (tgt := 358) dX2_value_136 (by decide) ?_
            refine ev_sub [0, 1, 2, 3, 4, 5, 6] rfl ?_
            exact t_X2_value_j358 v0 v1 v2 v3 v4 v5 v6 hv0 s54 _ hk6 hf
          · have hf := if_t c53 hf
            refine e_iconst (x := 1) dX2_value_130 (by decide) (pc2 := 131) rfl ?_
            refine e_goto (tgt := 135) dX2_value_131 (by decide) ?_
            obtain ⟨g57, hf⟩ := gd_some hf
            obtain ⟨s56, es56, hf⟩ := ltb_s hf
            refine e_iast dX2_value_135 (okX2_pile hv0) (inb_v g57) (h2 := hp s56) (by rw [es56]; rfl) (pc2 := 136) rfl ?_
            refine e_goto (tgt := 358) dX2_value_136 (by decide) ?_
            refine ev_sub [0, 1, 2, 3, 4, 5, 6] rfl ?_
            exact t_X2_value_j358 v0 v1 v2 v3 v4 v5 v6 hv0 s56 _ hk6 hf
    · have hf := if_f c4 hf
      refine e_iload dX2_value_31 5 rfl (pc2 := 33) rfl ?_
      refine e_aload_n dX2_value_33 0 rfl rfl (pc2 := 34) rfl ?_
      refine e_getR (r := Rf v0 2) fl_X2_15 dX2_value_34 (okX2_o hv0) (okX2_R hv0) (isA_ne (okX2_pile hv0)) (pc2 := 37) rfl ?_
      refine e_alen (x := 32) dX2_value_37 (okX2_pile hv0) (by decide) (by decide) (pc2 := 38) rfl ?_
      refine e_icmp_ge (tgt := 358) dX2_value_38 (by decide) (pc2 := 41) rfl (fun c58 => ?_) (fun c58 => ?_)
      · have hf := if_t c58 hf
        refine ev_sub [0, 1, 2, 3, 4, 5, 6] rfl ?_
        exact t_X2_value_j358 v0 v1 v2 v3 v4 v5 v6 hv0 s _ hk6 hf
      · have hf := if_f c58 hf
        refine e_aload_n dX2_value_41 0 rfl rfl (pc2 := 42) rfl ?_
        refine e_getR (r := Rf v0 2) fl_X2_15 dX2_value_42 (okX2_o hv0) (okX2_R hv0) (isA_ne (okX2_pile hv0)) (pc2 := 45) rfl ?_
        refine e_iload dX2_value_45 5 rfl (pc2 := 47) rfl ?_
        refine e_iload dX2_value_47 7 rfl (pc2 := 49) rfl ?_
        refine e_if_lt (tgt := 57) dX2_value_49 (by decide) (pc2 := 52) rfl (fun c59 => ?_) (fun c59 => ?_)
        · have hf := if_t c59 hf
          refine e_iload dX2_value_57 7 rfl (pc2 := 59) rfl ?_
          refine e_iconst (x := (-1)) dX2_value_59 (by decide) (pc2 := 60) rfl ?_
          refine e_icmp_ne (tgt := 67) dX2_value_60 (by decide) (pc2 := 63) rfl (fun c60 => ?_) (fun c60 => ?_)
          · have hf := if_f c60 hf
            refine e_iload dX2_value_67 7 rfl (pc2 := 69) rfl ?_
            refine e_bipush (x := (-2)) dX2_value_69 (by decide) (pc2 := 71) rfl ?_
            refine e_icmp_ne (tgt := 78) dX2_value_71 (by decide) (pc2 := 74) rfl (fun c61 => ?_) (fun c61 => ?_)
            · have hf := if_f c61 hf
              refine e_iload dX2_value_78 7 rfl (pc2 := 80) rfl ?_
              refine e_bipush (x := (-3)) dX2_value_80 (by decide) (pc2 := 82) rfl ?_
              refine e_icmp_ne (tgt := 89) dX2_value_82 (by decide) (pc2 := 85) rfl (fun c62 => ?_) (fun c62 => ?_)
              · have hf := if_f c62 hf
                refine e_iload dX2_value_89 4 rfl (pc2 := 91) rfl ?_
                obtain ⟨g64, hf⟩ := gd_some hf
                obtain ⟨s63, es63, hf⟩ := ltb_s hf
                refine e_iast dX2_value_91 (okX2_pile hv0) (inb_v g64) (h2 := hp s63) (by rw [es63]; rfl) (pc2 := 92) rfl ?_
                obtain ⟨x65, ex65, hf⟩ := ltb_s hf
                refine e_iinc dX2_value_92 5 rfl (c9 := 1) (by decide) ex65.symm (by decide) (ls' := [(0, .ref v0), (1, .int v1), (2, .int v2), (3, .int v3), (4, .int v4), (5, .int x65), (6, .int v6)]) [1, 2, 3, 4, 5, 0, 6] rfl (pc2 := 95) rfl ?_
                refine e_goto (tgt := 358) dX2_value_95 (by decide) ?_
                exact t_X2_value_j358 v0 v1 v2 v3 v4 x65 v6 hv0 s63 _ hk6 hf
              · have hf := if_t c62 hf
                refine e_iload_n dX2_value_85 3 rfl rfl (pc2 := 86) rfl ?_
                refine e_goto (tgt := 91) dX2_value_86 (by decide) ?_
                obtain ⟨g67, hf⟩ := gd_some hf
                obtain ⟨s66, es66, hf⟩ := ltb_s hf
                refine e_iast dX2_value_91 (okX2_pile hv0) (inb_v g67) (h2 := hp s66) (by rw [es66]; rfl) (pc2 := 92) rfl ?_
                obtain ⟨x68, ex68, hf⟩ := ltb_s hf
                refine e_iinc dX2_value_92 5 rfl (c9 := 1) (by decide) ex68.symm (by decide) (ls' := [(0, .ref v0), (1, .int v1), (2, .int v2), (3, .int v3), (4, .int v4), (5, .int x68), (6, .int v6)]) [1, 2, 3, 4, 5, 0, 6] rfl (pc2 := 95) rfl ?_
                refine e_goto (tgt := 358) dX2_value_95 (by decide) ?_
                exact t_X2_value_j358 v0 v1 v2 v3 v4 x68 v6 hv0 s66 _ hk6 hf
            · have hf := if_t c61 hf
              refine e_iload_n dX2_value_74 2 rfl rfl (pc2 := 75) rfl ?_
              refine e_goto (tgt := 91) dX2_value_75 (by decide) ?_
              obtain ⟨g70, hf⟩ := gd_some hf
              obtain ⟨s69, es69, hf⟩ := ltb_s hf
              refine e_iast dX2_value_91 (okX2_pile hv0) (inb_v g70) (h2 := hp s69) (by rw [es69]; rfl) (pc2 := 92) rfl ?_
              obtain ⟨x71, ex71, hf⟩ := ltb_s hf
              refine e_iinc dX2_value_92 5 rfl (c9 := 1) (by decide) ex71.symm (by decide) (ls' := [(0, .ref v0), (1, .int v1), (2, .int v2), (3, .int v3), (4, .int v4), (5, .int x71), (6, .int v6)]) [1, 2, 3, 4, 5, 0, 6] rfl (pc2 := 95) rfl ?_
              refine e_goto (tgt := 358) dX2_value_95 (by decide) ?_
              exact t_X2_value_j358 v0 v1 v2 v3 v4 x71 v6 hv0 s69 _ hk6 hf
          · have hf := if_t c60 hf
            refine e_iload_n dX2_value_63 1 rfl rfl (pc2 := 64) rfl ?_
            refine e_goto (tgt := 91) dX2_value_64 (by decide) ?_
            obtain ⟨g73, hf⟩ := gd_some hf
            obtain ⟨s72, es72, hf⟩ := ltb_s hf
            refine e_iast dX2_value_91 (okX2_pile hv0) (inb_v g73) (h2 := hp s72) (by rw [es72]; rfl) (pc2 := 92) rfl ?_
            obtain ⟨x74, ex74, hf⟩ := ltb_s hf
            refine e_iinc dX2_value_92 5 rfl (c9 := 1) (by decide) ex74.symm (by decide) (ls' := [(0, .ref v0), (1, .int v1), (2, .int v2), (3, .int v3), (4, .int v4), (5, .int x74), (6, .int v6)]) [1, 2, 3, 4, 5, 0, 6] rfl (pc2 := 95) rfl ?_
            refine e_goto (tgt := 358) dX2_value_95 (by decide) ?_
            exact t_X2_value_j358 v0 v1 v2 v3 v4 x74 v6 hv0 s72 _ hk6 hf
        · have hf := if_f c59 hf
          refine e_iload dX2_value_52 7 rfl (pc2 := 54) rfl ?_
          refine e_goto (tgt := 91) dX2_value_54 (by decide) ?_
          obtain ⟨g76, hf⟩ := gd_some hf
          obtain ⟨s75, es75, hf⟩ := ltb_s hf
          refine e_iast dX2_value_91 (okX2_pile hv0) (inb_v g76) (h2 := hp s75) (by rw [es75]; rfl) (pc2 := 92) rfl ?_
          obtain ⟨x77, ex77, hf⟩ := ltb_s hf
          refine e_iinc dX2_value_92 5 rfl (c9 := 1) (by decide) ex77.symm (by decide) (ls' := [(0, .ref v0), (1, .int v1), (2, .int v2), (3, .int v3), (4, .int v4), (5, .int x77), (6, .int v6)]) [1, 2, 3, 4, 5, 0, 6] rfl (pc2 := 95) rfl ?_
          refine e_goto (tgt := 358) dX2_value_95 (by decide) ?_
          exact t_X2_value_j358 v0 v1 v2 v3 v4 x77 v6 hv0 s75 _ hk6 hf
def f_X2_value_l6 (v0 : Nat) (v1 : Int32) (v2 : Int32) (v3 : Int32) (v4 : Int32) (k364 : Int32 → HS → Option (Int32 × HS)) : Nat → Int32 → Int32 → HS → Option (Int32 × HS)
  | 0, _, _, _ => none
  | n + 1, v5, v6, s => f_X2_value_l6b v0 v1 v2 v3 v4 v5 v6 (f_X2_value_l6 v0 v1 v2 v3 v4 k364 n) k364 s
set_option maxRecDepth 20000 in
set_option maxHeartbeats 2000000 in
theorem t_X2_value_l6 (v0 : Nat) (v1 : Int32) (v2 : Int32) (v3 : Int32) (v4 : Int32) (hv0 : okX2 v0 = true) {x : Int32} {t : HS} (k364 : Int32 → HS → Option (Int32 × HS)) (hk364 : ∀ (a5 : Int32) (s : HS), k364 a5 s = some (x, t) → Ev DDX2_value miX2_value NF (some (.int x)) NF (hp t) 364 NF [(0, .ref v0), (5, .int a5)] [] (hp s)) : ∀ (n : Nat) (v5 : Int32) (v6 : Int32) (s : HS), f_X2_value_l6 v0 v1 v2 v3 v4 k364 n v5 v6 s = some (x, t) → Ev DDX2_value miX2_value NF (some (.int x)) NF (hp t) 6 NF [(0, .ref v0), (1, .int v1), (2, .int v2), (3, .int v3), (4, .int v4), (5, .int v5), (6, .int v6)] [] (hp s) := by
  intro n
  induction n with
  | zero =>
    intro v5 v6 s hf
    have hf : none = some (x, t) := hf
    cases hf
  | succ n ih =>
    intro v5 v6 s hf
    exact t_X2_value_l6b v0 v1 v2 v3 v4 v5 v6 hv0 s _ ih _ hk364 hf
def f_X2_value (p : Nat) (v1 : Int32) (v2 : Int32) (v3 : Int32) (v4 : Int32) (s : HS) : Option (Int32 × HS) :=
  f_X2_value_l6 p v1 v2 v3 v4 (fun v78 s79 => (if v78 ≤ 0 then some (0, s79) else some (s79.1 (Rf p 2) 0, s79))) FU 0 0 s
set_option maxRecDepth 20000 in
set_option maxHeartbeats 2000000 in
theorem t_X2_value (p : Nat) (hp_ : okX2 p = true) (v1 : Int32) (v2 : Int32) (v3 : Int32) (v4 : Int32) (s : HS) {x : Int32} {t : HS} (hf : f_X2_value  p v1 v2 v3 v4 s = some (x, t)) : Mt DDX2_value miX2_value [.ref p, .int v1, .int v2, .int v3, .int v4] NF (hp s) (some (.int x)) NF (hp t) := by
  refine Mt.of (by decide +kernel) (Nat.le_refl _) (Nat.le_of_ble_eq_true rfl) ?_
  show Ev DDX2_value miX2_value NF (some (.int x)) NF (hp t) 0 NF [(0, .ref p), (1, .int v1), (2, .int v2), (3, .int v3), (4, .int v4)] [] (hp s)
  unfold f_X2_value at hf
  refine e_iconst (x := 0) dX2_value_0 (by decide) (pc2 := 1) rfl ?_
  refine e_istore dX2_value_1 (by decide) rfl (ls' := [(0, .ref p), (1, .int v1), (2, .int v2), (3, .int v3), (4, .int v4), (5, .int 0)]) [1, 2, 3, 4, 5, 0] rfl (pc2 := 3) rfl ?_
  refine e_iconst (x := 0) dX2_value_3 (by decide) (pc2 := 4) rfl ?_
  refine e_istore dX2_value_4 (by decide) rfl (ls' := [(0, .ref p), (1, .int v1), (2, .int v2), (3, .int v3), (4, .int v4), (5, .int 0), (6, .int 0)]) [1, 2, 3, 4, 5, 6, 0] rfl (pc2 := 6) rfl ?_
  refine t_X2_value_l6 p v1 v2 v3 v4 hp_ _ ?_ FU 0 0 s hf
  · intro v78 s79 hf
    refine e_iload dX2_value_364 1 rfl (pc2 := 366) rfl ?_
    refine e_if_le (tgt := 378) dX2_value_366 (by decide) (pc2 := 369) rfl (fun c80 => ?_) (fun c80 => ?_)
    · have hf := if_t c80 hf
      refine e_iconst (x := 0) dX2_value_378 (by decide) (pc2 := 379) rfl ?_
      cases hf
      exact e_iret rfl dX2_value_379
    · have hf := if_f c80 hf
      refine e_aload_n dX2_value_369 0 rfl rfl (pc2 := 370) rfl ?_
      refine e_getR (r := Rf p 2) fl_X2_15 dX2_value_370 (okX2_o hp_) (okX2_R hp_) (isA_ne (okX2_pile hp_)) (pc2 := 373) rfl ?_
      refine e_iconst (x := 0) dX2_value_373 (by decide) (pc2 := 374) rfl ?_
      refine e_iald dX2_value_374 (okX2_pile hp_) (inb_v (by decide)) (pc2 := 375) rfl ?_
      refine e_goto (tgt := 379) dX2_value_375 (by decide) ?_
      cases hf
      exact e_iret rfl dX2_value_379
def f_X3_readProduct_l8b (rp : Nat → Int32 → HS → Option HS) (v1 : Nat) (v2 : Int32) (v3 : Int32) (k8 : Int32 → HS → Option HS) (s : HS) : Option HS :=
  (if 1000 ≤ v3 then some s else (if (f_X8_isSign 42 s) = 0 then some s else bnd (f_X8_step s) fun s6 => bnd (rp v1 v2 s6) fun s8 => bnd (f_X2_add v1 (-12) s8) fun s10 => ltb (v3 + 1) fun x11 => k8 x11 s10))
set_option maxRecDepth 20000 in
set_option maxHeartbeats 2000000 in
theorem t_X3_readProduct_l8b (rp : Nat → Int32 → HS → Option HS) (dd : Nat) (hdd : 10 ≤ dd) (hrp : ∀ (v1 : Nat), okX2 v1 = true → ∀ (v2 : Int32) (s : HS) {t : HS}, rp v1 v2 s = some t → Mt dd miX3_readPart [.ref 70, .ref v1, .int v2] NF (hp s) none NF (hp t)) (v1 : Nat) (v2 : Int32) (v3 : Int32) (hv1 : okX2 v1 = true) (s : HS) {t : HS} (k8 : Int32 → HS → Option HS) (hk8 : ∀ (a3 : Int32) (s : HS), k8 a3 s = some t → Ev (dd + 1) miX3_readProduct NF none NF (hp t) 8 NF [(0, .ref 70), (1, .ref v1), (2, .int v2), (3, .int a3)] [] (hp s)) (hf : f_X3_readProduct_l8b rp v1 v2 v3 k8 s = some t) : Ev (dd + 1) miX3_readProduct NF none NF (hp t) 8 NF [(0, .ref 70), (1, .ref v1), (2, .int v2), (3, .int v3)] [] (hp s) := by
  refine e_iload_n dX3_readProduct_8 3 rfl rfl (pc2 := 9) rfl ?_
  refine e_sipush (x := 1000) dX3_readProduct_9 (by decide) (pc2 := 12) rfl ?_
  refine e_icmp_ge (tgt := 52) dX3_readProduct_12 (by decide) (pc2 := 15) rfl (fun c3 => ?_) (fun c3 => ?_)
  · have hf := if_t c3 hf
    cases hf
    exact e_vret rfl dX3_readProduct_52
  · have hf := if_f c3 hf
    refine e_aload_n dX3_readProduct_15 0 rfl rfl (pc2 := 16) rfl ?_
    refine e_getR (r := 36) fl_X3_9 dX3_readProduct_16 so_70 (rs_70_0 s.2.2) (by decide) (pc2 := 19) rfl ?_
    refine e_bipush (x := 42) dX3_readProduct_19 (by decide) (pc2 := 21) rfl ?_
    refine e_callVs (t_X8_isSign 42 s rfl) dX3_readProduct_21 cv_X3_45 rfl so_36 rc_8 (show 1 + 1 ≤ dd + 1 by omega) (by first | exact Nat.le_of_ble_eq_true rfl | simp [rva_cat, vc_i, vc_r, vc_l, vc_n]) nn0 rfl (pc2 := 24) rfl ?_
    refine e_if_eq (tgt := 52) dX3_readProduct_24 (by decide) (pc2 := 27) rfl (fun c4 => ?_) (fun c4 => ?_)
    · have hf := if_t c4 hf
      cases hf
      exact e_vret rfl dX3_readProduct_52
    · have hf := if_f c4 hf
      refine e_aload_n dX3_readProduct_27 0 rfl rfl (pc2 := 28) rfl ?_
      refine e_getR (r := 36) fl_X3_9 dX3_readProduct_28 so_70 (rs_70_0 s.2.2) (by decide) (pc2 := 31) rfl ?_
      obtain ⟨s6, hy5, hf⟩ := bnd_s hf
      refine e_callVn (t_X8_step  s hy5) dX3_readProduct_31 cv_X3_35 rfl so_36 rc_8 (show 5 + 1 ≤ dd + 1 by omega) (by first | exact Nat.le_of_ble_eq_true rfl | simp [rva_cat, vc_i, vc_r, vc_l, vc_n]) nn0 rfl (pc2 := 34) rfl ?_
      refine e_aload_n dX3_readProduct_34 0 rfl rfl (pc2 := 35) rfl ?_
      refine e_aload_n dX3_readProduct_35 1 rfl rfl (pc2 := 36) rfl ?_
      refine e_iload_n dX3_readProduct_36 2 rfl rfl (pc2 := 37) rfl ?_
      obtain ⟨s8, hy7, hf⟩ := bnd_s hf
      refine e_callVn (hrp v1 hv1 v2 s6 hy7) dX3_readProduct_37 cv_X3_52 rfl so_70 rc_3 (by omega) (by first | exact Nat.le_of_ble_eq_true rfl | simp [rva_cat, vc_i, vc_r, vc_l, vc_n]) nn0 rfl (pc2 := 40) rfl ?_
      refine e_aload_n dX3_readProduct_40 1 rfl rfl (pc2 := 41) rfl ?_
      refine e_bipush (x := (-12)) dX3_readProduct_41 (by decide) (pc2 := 43) rfl ?_
      obtain ⟨s10, hy9, hf⟩ := bnd_s hf
      refine e_callVn (t_X2_add v1 hv1 (-12) s8 hy9) dX3_readProduct_43 cv_X3_38 rfl (okX2_o hv1) rc_2 (show 1 + 1 ≤ dd + 1 by omega) (by first | exact Nat.le_of_ble_eq_true rfl | simp [rva_cat, vc_i, vc_r, vc_l, vc_n]) nn0 rfl (pc2 := 46) rfl ?_
      obtain ⟨x11, ex11, hf⟩ := ltb_s hf
      refine e_iinc dX3_readProduct_46 3 rfl (c9 := 1) (by decide) ex11.symm (by decide) (ls' := [(0, .ref 70), (1, .ref v1), (2, .int v2), (3, .int x11)]) [1, 2, 3, 0] rfl (pc2 := 49) rfl ?_
      refine e_goto (tgt := 8) dX3_readProduct_49 (by decide) ?_
      exact hk8 x11 s10 hf
def f_X3_readProduct_l8 (rp : Nat → Int32 → HS → Option HS) (v1 : Nat) (v2 : Int32) : Nat → Int32 → HS → Option HS
  | 0, _, _ => none
  | n + 1, v3, s => f_X3_readProduct_l8b rp v1 v2 v3 (f_X3_readProduct_l8 rp v1 v2 n)  s
set_option maxRecDepth 20000 in
set_option maxHeartbeats 2000000 in
theorem t_X3_readProduct_l8 (rp : Nat → Int32 → HS → Option HS) (dd : Nat) (hdd : 10 ≤ dd) (hrp : ∀ (v1 : Nat), okX2 v1 = true → ∀ (v2 : Int32) (s : HS) {t : HS}, rp v1 v2 s = some t → Mt dd miX3_readPart [.ref 70, .ref v1, .int v2] NF (hp s) none NF (hp t)) (v1 : Nat) (v2 : Int32) (hv1 : okX2 v1 = true) {t : HS}  : ∀ (n : Nat) (v3 : Int32) (s : HS), f_X3_readProduct_l8 rp v1 v2 n v3 s = some t → Ev (dd + 1) miX3_readProduct NF none NF (hp t) 8 NF [(0, .ref 70), (1, .ref v1), (2, .int v2), (3, .int v3)] [] (hp s) := by
  intro n
  induction n with
  | zero =>
    intro v3 s hf
    have hf : none = some t := hf
    cases hf
  | succ n ih =>
    intro v3 s hf
    exact t_X3_readProduct_l8b rp dd hdd hrp v1 v2 v3 hv1 s _ ih  hf
def f_X3_readProduct (rp : Nat → Int32 → HS → Option HS) (v1 : Nat) (v2 : Int32) (s : HS) : Option HS :=
  bnd (rp v1 v2 s) fun s2 => f_X3_readProduct_l8 rp v1 v2 FU 0 s2
set_option maxRecDepth 20000 in
set_option maxHeartbeats 2000000 in
theorem t_X3_readProduct (rp : Nat → Int32 → HS → Option HS) (dd : Nat) (hdd : 10 ≤ dd) (hrp : ∀ (v1 : Nat), okX2 v1 = true → ∀ (v2 : Int32) (s : HS) {t : HS}, rp v1 v2 s = some t → Mt dd miX3_readPart [.ref 70, .ref v1, .int v2] NF (hp s) none NF (hp t)) (v1 : Nat) (hv1 : okX2 v1 = true) (v2 : Int32) (s : HS) {t : HS} (hf : f_X3_readProduct rp v1 v2 s = some t) : Mt (dd + 1) miX3_readProduct [.ref 70, .ref v1, .int v2] NF (hp s) none NF (hp t) := by
  refine Mt.of (by decide +kernel) (Nat.le_refl _) (Nat.le_of_ble_eq_true rfl) ?_
  show Ev (dd + 1) miX3_readProduct NF none NF (hp t) 0 NF [(0, .ref 70), (1, .ref v1), (2, .int v2)] [] (hp s)
  unfold f_X3_readProduct at hf
  refine e_aload_n dX3_readProduct_0 0 rfl rfl (pc2 := 1) rfl ?_
  refine e_aload_n dX3_readProduct_1 1 rfl rfl (pc2 := 2) rfl ?_
  refine e_iload_n dX3_readProduct_2 2 rfl rfl (pc2 := 3) rfl ?_
  obtain ⟨s2, hy1, hf⟩ := bnd_s hf
  refine e_callVn (hrp v1 hv1 v2 s hy1) dX3_readProduct_3 cv_X3_52 rfl so_70 rc_3 (by omega) (by first | exact Nat.le_of_ble_eq_true rfl | simp [rva_cat, vc_i, vc_r, vc_l, vc_n]) nn0 rfl (pc2 := 6) rfl ?_
  refine e_iconst (x := 0) dX3_readProduct_6 (by decide) (pc2 := 7) rfl ?_
  refine e_istore_n dX3_readProduct_7 rfl (by decide) rfl (ls' := [(0, .ref 70), (1, .ref v1), (2, .int v2), (3, .int 0)]) [1, 2, 3, 0] rfl (pc2 := 8) rfl ?_
  refine t_X3_readProduct_l8 rp dd hdd hrp v1 v2 hv1 FU 0 s2 hf
def f_X3_readSum_j58 (rp : Nat → Int32 → HS → Option HS) (v1 : Nat) (v2 : Int32) (v3 : Int32) (w0 : Int32) (k8 : Int32 → HS → Option HS) (s : HS) : Option HS :=
  bnd (f_X8_step s) fun s7 => bnd (f_X3_readProduct rp v1 v2 s7) fun s9 => bnd (f_X2_add v1 w0 s9) fun s11 => ltb (v3 + 1) fun x12 => k8 x12 s11
set_option maxRecDepth 20000 in
set_option maxHeartbeats 2000000 in
theorem t_X3_readSum_j58 (rp : Nat → Int32 → HS → Option HS) (dd : Nat) (hdd : 10 ≤ dd) (hrp : ∀ (v1 : Nat), okX2 v1 = true → ∀ (v2 : Int32) (s : HS) {t : HS}, rp v1 v2 s = some t → Mt dd miX3_readPart [.ref 70, .ref v1, .int v2] NF (hp s) none NF (hp t)) (v1 : Nat) (v2 : Int32) (v3 : Int32) (w0 : Int32) (hv1 : okX2 v1 = true) (s : HS) {t : HS} (k8 : Int32 → HS → Option HS) (hk8 : ∀ (a3 : Int32) (s : HS), k8 a3 s = some t → Ev (dd + 2) miX3_readSum NF none NF (hp t) 8 NF [(0, .ref 70), (1, .ref v1), (2, .int v2), (3, .int a3)] [] (hp s)) (hf : f_X3_readSum_j58 rp v1 v2 v3 w0 k8 s = some t) : Ev (dd + 2) miX3_readSum NF none NF (hp t) 58 NF [(0, .ref 70), (1, .ref v1), (2, .int v2), (3, .int v3)] [.int w0] (hp s) := by
  refine e_istore dX3_readSum_58 (by decide) rfl (ls' := [(0, .ref 70), (1, .ref v1), (2, .int v2), (3, .int v3), (4, .int w0)]) [1, 2, 3, 4, 0] rfl (pc2 := 60) rfl ?_
  refine e_aload_n dX3_readSum_60 0 rfl rfl (pc2 := 61) rfl ?_
  refine e_getR (r := 36) fl_X3_9 dX3_readSum_61 so_70 (rs_70_0 s.2.2) (by decide) (pc2 := 64) rfl ?_
  obtain ⟨s7, hy6, hf⟩ := bnd_s hf
  refine e_callVn (t_X8_step  s hy6) dX3_readSum_64 cv_X3_35 rfl so_36 rc_8 (show 5 + 1 ≤ dd + 2 by omega) (by first | exact Nat.le_of_ble_eq_true rfl | simp [rva_cat, vc_i, vc_r, vc_l, vc_n]) nn0 rfl (pc2 := 67) rfl ?_
  refine e_aload_n dX3_readSum_67 0 rfl rfl (pc2 := 68) rfl ?_
  refine e_aload_n dX3_readSum_68 1 rfl rfl (pc2 := 69) rfl ?_
  refine e_iload_n dX3_readSum_69 2 rfl rfl (pc2 := 70) rfl ?_
  obtain ⟨s9, hy8, hf⟩ := bnd_s hf
  refine e_callVn (t_X3_readProduct rp dd hdd hrp v1 hv1 v2 s7 hy8) dX3_readSum_70 cv_X3_49 rfl so_70 rc_3 (by omega) (by first | exact Nat.le_of_ble_eq_true rfl | simp [rva_cat, vc_i, vc_r, vc_l, vc_n]) nn0 rfl (pc2 := 73) rfl ?_
  refine e_aload_n dX3_readSum_73 1 rfl rfl (pc2 := 74) rfl ?_
  refine e_iload dX3_readSum_74 4 rfl (pc2 := 76) rfl ?_
  obtain ⟨s11, hy10, hf⟩ := bnd_s hf
  refine e_callVn (t_X2_add v1 hv1 w0 s9 hy10) dX3_readSum_76 cv_X3_38 rfl (okX2_o hv1) rc_2 (show 1 + 1 ≤ dd + 2 by omega) (by first | exact Nat.le_of_ble_eq_true rfl | simp [rva_cat, vc_i, vc_r, vc_l, vc_n]) nn0 rfl (pc2 := 79) rfl ?_
  obtain ⟨x12, ex12, hf⟩ := ltb_s hf
  refine e_iinc dX3_readSum_79 3 rfl (c9 := 1) (by decide) ex12.symm (by decide) (ls' := [(0, .ref 70), (1, .ref v1), (2, .int v2), (3, .int x12)]) [1, 2, 3, 0] rfl (pc2 := 82) rfl ?_
  refine e_goto (tgt := 8) dX3_readSum_82 (by decide) ?_
  exact hk8 x12 s11 hf
def f_X3_readSum_j39 (rp : Nat → Int32 → HS → Option HS) (v1 : Nat) (v2 : Int32) (v3 : Int32) (k8 : Int32 → HS → Option HS) (s : HS) : Option HS :=
  (if (f_X8_isSign 43 s) = 0 then f_X3_readSum_j58 rp v1 v2 v3 (-11) k8 s else f_X3_readSum_j58 rp v1 v2 v3 (-10) k8 s)
set_option maxRecDepth 20000 in
set_option maxHeartbeats 2000000 in
theorem t_X3_readSum_j39 (rp : Nat → Int32 → HS → Option HS) (dd : Nat) (hdd : 10 ≤ dd) (hrp : ∀ (v1 : Nat), okX2 v1 = true → ∀ (v2 : Int32) (s : HS) {t : HS}, rp v1 v2 s = some t → Mt dd miX3_readPart [.ref 70, .ref v1, .int v2] NF (hp s) none NF (hp t)) (v1 : Nat) (v2 : Int32) (v3 : Int32) (hv1 : okX2 v1 = true) (s : HS) {t : HS} (k8 : Int32 → HS → Option HS) (hk8 : ∀ (a3 : Int32) (s : HS), k8 a3 s = some t → Ev (dd + 2) miX3_readSum NF none NF (hp t) 8 NF [(0, .ref 70), (1, .ref v1), (2, .int v2), (3, .int a3)] [] (hp s)) (hf : f_X3_readSum_j39 rp v1 v2 v3 k8 s = some t) : Ev (dd + 2) miX3_readSum NF none NF (hp t) 39 NF [(0, .ref 70), (1, .ref v1), (2, .int v2), (3, .int v3)] [] (hp s) := by
  refine e_aload_n dX3_readSum_39 0 rfl rfl (pc2 := 40) rfl ?_
  refine e_getR (r := 36) fl_X3_9 dX3_readSum_40 so_70 (rs_70_0 s.2.2) (by decide) (pc2 := 43) rfl ?_
  refine e_bipush (x := 43) dX3_readSum_43 (by decide) (pc2 := 45) rfl ?_
  refine e_callVs (t_X8_isSign 43 s rfl) dX3_readSum_45 cv_X3_45 rfl so_36 rc_8 (show 1 + 1 ≤ dd + 2 by omega) (by first | exact Nat.le_of_ble_eq_true rfl | simp [rva_cat, vc_i, vc_r, vc_l, vc_n]) nn0 rfl (pc2 := 48) rfl ?_
  refine e_if_eq (tgt := 56) dX3_readSum_48 (by decide) (pc2 := 51) rfl (fun c5 => ?_) (fun c5 => ?_)
  · have hf := if_t c5 hf
    refine e_bipush (x := (-11)) dX3_readSum_56 (by decide) (pc2 := 58) rfl ?_
    exact t_X3_readSum_j58 rp dd hdd hrp v1 v2 v3 (-11) hv1 s _ hk8 hf
  · have hf := if_f c5 hf
    refine e_bipush (x := (-10)) dX3_readSum_51 (by decide) (pc2 := 53) rfl ?_
    refine e_goto (tgt := 58) dX3_readSum_53 (by decide) ?_
    exact t_X3_readSum_j58 rp dd hdd hrp v1 v2 v3 (-10) hv1 s _ hk8 hf
def f_X3_readSum_l8b (rp : Nat → Int32 → HS → Option HS) (v1 : Nat) (v2 : Int32) (v3 : Int32) (k8 : Int32 → HS → Option HS) (s : HS) : Option HS :=
  (if 1000 ≤ v3 then some s else (if (f_X8_isSign 43 s) = 0 then (if (f_X8_isSign 45 s) = 0 then some s else f_X3_readSum_j39 rp v1 v2 v3 k8 s) else f_X3_readSum_j39 rp v1 v2 v3 k8 s))
set_option maxRecDepth 20000 in
set_option maxHeartbeats 2000000 in
theorem t_X3_readSum_l8b (rp : Nat → Int32 → HS → Option HS) (dd : Nat) (hdd : 10 ≤ dd) (hrp : ∀ (v1 : Nat), okX2 v1 = true → ∀ (v2 : Int32) (s : HS) {t : HS}, rp v1 v2 s = some t → Mt dd miX3_readPart [.ref 70, .ref v1, .int v2] NF (hp s) none NF (hp t)) (v1 : Nat) (v2 : Int32) (v3 : Int32) (hv1 : okX2 v1 = true) (s : HS) {t : HS} (k8 : Int32 → HS → Option HS) (hk8 : ∀ (a3 : Int32) (s : HS), k8 a3 s = some t → Ev (dd + 2) miX3_readSum NF none NF (hp t) 8 NF [(0, .ref 70), (1, .ref v1), (2, .int v2), (3, .int a3)] [] (hp s)) (hf : f_X3_readSum_l8b rp v1 v2 v3 k8 s = some t) : Ev (dd + 2) miX3_readSum NF none NF (hp t) 8 NF [(0, .ref 70), (1, .ref v1), (2, .int v2), (3, .int v3)] [] (hp s) := by
  refine e_iload_n dX3_readSum_8 3 rfl rfl (pc2 := 9) rfl ?_
  refine e_sipush (x := 1000) dX3_readSum_9 (by decide) (pc2 := 12) rfl ?_
  refine e_icmp_ge (tgt := 85) dX3_readSum_12 (by decide) (pc2 := 15) rfl (fun c3 => ?_) (fun c3 => ?_)
  · have hf := if_t c3 hf
    cases hf
    exact e_vret rfl dX3_readSum_85
  · have hf := if_f c3 hf
    refine e_aload_n dX3_readSum_15 0 rfl rfl (pc2 := 16) rfl ?_
    refine e_getR (r := 36) fl_X3_9 dX3_readSum_16 so_70 (rs_70_0 s.2.2) (by decide) (pc2 := 19) rfl ?_
    refine e_bipush (x := 43) dX3_readSum_19 (by decide) (pc2 := 21) rfl ?_
    refine e_callVs (t_X8_isSign 43 s rfl) dX3_readSum_21 cv_X3_45 rfl so_36 rc_8 (show 1 + 1 ≤ dd + 2 by omega) (by first | exact Nat.le_of_ble_eq_true rfl | simp [rva_cat, vc_i, vc_r, vc_l, vc_n]) nn0 rfl (pc2 := 24) rfl ?_
    refine e_if_ne (tgt := 39) dX3_readSum_24 (by decide) (pc2 := 27) rfl (fun c4 => ?_) (fun c4 => ?_)
    · have hf := if_f c4 hf
      exact t_X3_readSum_j39 rp dd hdd hrp v1 v2 v3 hv1 s _ hk8 hf
    · have hf := if_t c4 hf
      refine e_aload_n dX3_readSum_27 0 rfl rfl (pc2 := 28) rfl ?_
      refine e_getR (r := 36) fl_X3_9 dX3_readSum_28 so_70 (rs_70_0 s.2.2) (by decide) (pc2 := 31) rfl ?_
      refine e_bipush (x := 45) dX3_readSum_31 (by decide) (pc2 := 33) rfl ?_
      refine e_callVs (t_X8_isSign 45 s rfl) dX3_readSum_33 cv_X3_45 rfl so_36 rc_8 (show 1 + 1 ≤ dd + 2 by omega) (by first | exact Nat.le_of_ble_eq_true rfl | simp [rva_cat, vc_i, vc_r, vc_l, vc_n]) nn0 rfl (pc2 := 36) rfl ?_
      refine e_if_eq (tgt := 85) dX3_readSum_36 (by decide) (pc2 := 39) rfl (fun c13 => ?_) (fun c13 => ?_)
      · have hf := if_t c13 hf
        cases hf
        exact e_vret rfl dX3_readSum_85
      · have hf := if_f c13 hf
        exact t_X3_readSum_j39 rp dd hdd hrp v1 v2 v3 hv1 s _ hk8 hf
def f_X3_readSum_l8 (rp : Nat → Int32 → HS → Option HS) (v1 : Nat) (v2 : Int32) : Nat → Int32 → HS → Option HS
  | 0, _, _ => none
  | n + 1, v3, s => f_X3_readSum_l8b rp v1 v2 v3 (f_X3_readSum_l8 rp v1 v2 n)  s
set_option maxRecDepth 20000 in
set_option maxHeartbeats 2000000 in
theorem t_X3_readSum_l8 (rp : Nat → Int32 → HS → Option HS) (dd : Nat) (hdd : 10 ≤ dd) (hrp : ∀ (v1 : Nat), okX2 v1 = true → ∀ (v2 : Int32) (s : HS) {t : HS}, rp v1 v2 s = some t → Mt dd miX3_readPart [.ref 70, .ref v1, .int v2] NF (hp s) none NF (hp t)) (v1 : Nat) (v2 : Int32) (hv1 : okX2 v1 = true) {t : HS}  : ∀ (n : Nat) (v3 : Int32) (s : HS), f_X3_readSum_l8 rp v1 v2 n v3 s = some t → Ev (dd + 2) miX3_readSum NF none NF (hp t) 8 NF [(0, .ref 70), (1, .ref v1), (2, .int v2), (3, .int v3)] [] (hp s) := by
  intro n
  induction n with
  | zero =>
    intro v3 s hf
    have hf : none = some t := hf
    cases hf
  | succ n ih =>
    intro v3 s hf
    exact t_X3_readSum_l8b rp dd hdd hrp v1 v2 v3 hv1 s _ ih  hf
def f_X3_readSum (rp : Nat → Int32 → HS → Option HS) (v1 : Nat) (v2 : Int32) (s : HS) : Option HS :=
  bnd (f_X3_readProduct rp v1 v2 s) fun s2 => f_X3_readSum_l8 rp v1 v2 FU 0 s2
set_option maxRecDepth 20000 in
set_option maxHeartbeats 2000000 in
theorem t_X3_readSum (rp : Nat → Int32 → HS → Option HS) (dd : Nat) (hdd : 10 ≤ dd) (hrp : ∀ (v1 : Nat), okX2 v1 = true → ∀ (v2 : Int32) (s : HS) {t : HS}, rp v1 v2 s = some t → Mt dd miX3_readPart [.ref 70, .ref v1, .int v2] NF (hp s) none NF (hp t)) (v1 : Nat) (hv1 : okX2 v1 = true) (v2 : Int32) (s : HS) {t : HS} (hf : f_X3_readSum rp v1 v2 s = some t) : Mt (dd + 2) miX3_readSum [.ref 70, .ref v1, .int v2] NF (hp s) none NF (hp t) := by
  refine Mt.of (by decide +kernel) (Nat.le_refl _) (Nat.le_of_ble_eq_true rfl) ?_
  show Ev (dd + 2) miX3_readSum NF none NF (hp t) 0 NF [(0, .ref 70), (1, .ref v1), (2, .int v2)] [] (hp s)
  unfold f_X3_readSum at hf
  refine e_aload_n dX3_readSum_0 0 rfl rfl (pc2 := 1) rfl ?_
  refine e_aload_n dX3_readSum_1 1 rfl rfl (pc2 := 2) rfl ?_
  refine e_iload_n dX3_readSum_2 2 rfl rfl (pc2 := 3) rfl ?_
  obtain ⟨s2, hy1, hf⟩ := bnd_s hf
  refine e_callVn (t_X3_readProduct rp dd hdd hrp v1 hv1 v2 s hy1) dX3_readSum_3 cv_X3_49 rfl so_70 rc_3 (by omega) (by first | exact Nat.le_of_ble_eq_true rfl | simp [rva_cat, vc_i, vc_r, vc_l, vc_n]) nn0 rfl (pc2 := 6) rfl ?_
  refine e_iconst (x := 0) dX3_readSum_6 (by decide) (pc2 := 7) rfl ?_
  refine e_istore_n dX3_readSum_7 rfl (by decide) rfl (ls' := [(0, .ref 70), (1, .ref v1), (2, .int v2), (3, .int 0)]) [1, 2, 3, 0] rfl (pc2 := 8) rfl ?_
  refine t_X3_readSum_l8 rp dd hdd hrp v1 v2 hv1 FU 0 s2 hf
def f_X3_readTest_j49 (rp : Nat → Int32 → HS → Option HS) (v1 : Nat) (v2 : Int32) (w0 : Int32) (s : HS) : Option HS :=
  bnd (f_X8_step s) fun s6 => bnd (f_X3_readSum rp v1 v2 s6) fun s8 => bnd (f_X2_add v1 w0 s8) fun s10 => some s10
set_option maxRecDepth 20000 in
set_option maxHeartbeats 2000000 in
theorem t_X3_readTest_j49 (rp : Nat → Int32 → HS → Option HS) (dd : Nat) (hdd : 10 ≤ dd) (hrp : ∀ (v1 : Nat), okX2 v1 = true → ∀ (v2 : Int32) (s : HS) {t : HS}, rp v1 v2 s = some t → Mt dd miX3_readPart [.ref 70, .ref v1, .int v2] NF (hp s) none NF (hp t)) (v1 : Nat) (v2 : Int32) (w0 : Int32) (hv1 : okX2 v1 = true) (s : HS) {t : HS}  (hf : f_X3_readTest_j49 rp v1 v2 w0 s = some t) : Ev (dd + 3) miX3_readTest NF none NF (hp t) 49 NF [(0, .ref 70), (1, .ref v1), (2, .int v2)] [.int w0] (hp s) := by
  refine e_istore_n dX3_readTest_49 rfl (by decide) rfl (ls' := [(0, .ref 70), (1, .ref v1), (2, .int v2), (3, .int w0)]) [1, 2, 3, 0] rfl (pc2 := 50) rfl ?_
  refine e_aload_n dX3_readTest_50 0 rfl rfl (pc2 := 51) rfl ?_
  refine e_getR (r := 36) fl_X3_9 dX3_readTest_51 so_70 (rs_70_0 s.2.2) (by decide) (pc2 := 54) rfl ?_
  obtain ⟨s6, hy5, hf⟩ := bnd_s hf
  refine e_callVn (t_X8_step  s hy5) dX3_readTest_54 cv_X3_35 rfl so_36 rc_8 (show 5 + 1 ≤ dd + 3 by omega) (by first | exact Nat.le_of_ble_eq_true rfl | simp [rva_cat, vc_i, vc_r, vc_l, vc_n]) nn0 rfl (pc2 := 57) rfl ?_
  refine e_aload_n dX3_readTest_57 0 rfl rfl (pc2 := 58) rfl ?_
  refine e_aload_n dX3_readTest_58 1 rfl rfl (pc2 := 59) rfl ?_
  refine e_iload_n dX3_readTest_59 2 rfl rfl (pc2 := 60) rfl ?_
  obtain ⟨s8, hy7, hf⟩ := bnd_s hf
  refine e_callVn (t_X3_readSum rp dd hdd hrp v1 hv1 v2 s6 hy7) dX3_readTest_60 cv_X3_42 rfl so_70 rc_3 (by omega) (by first | exact Nat.le_of_ble_eq_true rfl | simp [rva_cat, vc_i, vc_r, vc_l, vc_n]) nn0 rfl (pc2 := 63) rfl ?_
  refine e_aload_n dX3_readTest_63 1 rfl rfl (pc2 := 64) rfl ?_
  refine e_iload_n dX3_readTest_64 3 rfl rfl (pc2 := 65) rfl ?_
  obtain ⟨s10, hy9, hf⟩ := bnd_s hf
  refine e_callVn (t_X2_add v1 hv1 w0 s8 hy9) dX3_readTest_65 cv_X3_38 rfl (okX2_o hv1) rc_2 (show 1 + 1 ≤ dd + 3 by omega) (by first | exact Nat.le_of_ble_eq_true rfl | simp [rva_cat, vc_i, vc_r, vc_l, vc_n]) nn0 rfl (pc2 := 68) rfl ?_
  cases hf
  exact e_vret rfl dX3_readTest_68
def f_X3_readTest_j30 (rp : Nat → Int32 → HS → Option HS) (v1 : Nat) (v2 : Int32) (s : HS) : Option HS :=
  (if (f_X8_isSign 60 s) = 0 then f_X3_readTest_j49 rp v1 v2 (-9) s else f_X3_readTest_j49 rp v1 v2 (-8) s)
set_option maxRecDepth 20000 in
set_option maxHeartbeats 2000000 in
theorem t_X3_readTest_j30 (rp : Nat → Int32 → HS → Option HS) (dd : Nat) (hdd : 10 ≤ dd) (hrp : ∀ (v1 : Nat), okX2 v1 = true → ∀ (v2 : Int32) (s : HS) {t : HS}, rp v1 v2 s = some t → Mt dd miX3_readPart [.ref 70, .ref v1, .int v2] NF (hp s) none NF (hp t)) (v1 : Nat) (v2 : Int32) (hv1 : okX2 v1 = true) (s : HS) {t : HS}  (hf : f_X3_readTest_j30 rp v1 v2 s = some t) : Ev (dd + 3) miX3_readTest NF none NF (hp t) 30 NF [(0, .ref 70), (1, .ref v1), (2, .int v2)] [] (hp s) := by
  refine e_aload_n dX3_readTest_30 0 rfl rfl (pc2 := 31) rfl ?_
  refine e_getR (r := 36) fl_X3_9 dX3_readTest_31 so_70 (rs_70_0 s.2.2) (by decide) (pc2 := 34) rfl ?_
  refine e_bipush (x := 60) dX3_readTest_34 (by decide) (pc2 := 36) rfl ?_
  refine e_callVs (t_X8_isSign 60 s rfl) dX3_readTest_36 cv_X3_45 rfl so_36 rc_8 (show 1 + 1 ≤ dd + 3 by omega) (by first | exact Nat.le_of_ble_eq_true rfl | simp [rva_cat, vc_i, vc_r, vc_l, vc_n]) nn0 rfl (pc2 := 39) rfl ?_
  refine e_if_eq (tgt := 47) dX3_readTest_39 (by decide) (pc2 := 42) rfl (fun c4 => ?_) (fun c4 => ?_)
  · have hf := if_t c4 hf
    refine e_bipush (x := (-9)) dX3_readTest_47 (by decide) (pc2 := 49) rfl ?_
    exact t_X3_readTest_j49 rp dd hdd hrp v1 v2 (-9) hv1 s hf
  · have hf := if_f c4 hf
    refine e_bipush (x := (-8)) dX3_readTest_42 (by decide) (pc2 := 44) rfl ?_
    refine e_goto (tgt := 49) dX3_readTest_44 (by decide) ?_
    exact t_X3_readTest_j49 rp dd hdd hrp v1 v2 (-8) hv1 s hf
def f_X3_readTest (rp : Nat → Int32 → HS → Option HS) (v1 : Nat) (v2 : Int32) (s : HS) : Option HS :=
  bnd (f_X3_readSum rp v1 v2 s) fun s2 => (if (f_X8_isSign 60 s2) = 0 then (if (f_X8_isSign 61 s2) = 0 then some s2 else f_X3_readTest_j30 rp v1 v2 s2) else f_X3_readTest_j30 rp v1 v2 s2)
set_option maxRecDepth 20000 in
set_option maxHeartbeats 2000000 in
theorem t_X3_readTest (rp : Nat → Int32 → HS → Option HS) (dd : Nat) (hdd : 10 ≤ dd) (hrp : ∀ (v1 : Nat), okX2 v1 = true → ∀ (v2 : Int32) (s : HS) {t : HS}, rp v1 v2 s = some t → Mt dd miX3_readPart [.ref 70, .ref v1, .int v2] NF (hp s) none NF (hp t)) (v1 : Nat) (hv1 : okX2 v1 = true) (v2 : Int32) (s : HS) {t : HS} (hf : f_X3_readTest rp v1 v2 s = some t) : Mt (dd + 3) miX3_readTest [.ref 70, .ref v1, .int v2] NF (hp s) none NF (hp t) := by
  refine Mt.of (by decide +kernel) (Nat.le_refl _) (Nat.le_of_ble_eq_true rfl) ?_
  show Ev (dd + 3) miX3_readTest NF none NF (hp t) 0 NF [(0, .ref 70), (1, .ref v1), (2, .int v2)] [] (hp s)
  unfold f_X3_readTest at hf
  refine e_aload_n dX3_readTest_0 0 rfl rfl (pc2 := 1) rfl ?_
  refine e_aload_n dX3_readTest_1 1 rfl rfl (pc2 := 2) rfl ?_
  refine e_iload_n dX3_readTest_2 2 rfl rfl (pc2 := 3) rfl ?_
  obtain ⟨s2, hy1, hf⟩ := bnd_s hf
  refine e_callVn (t_X3_readSum rp dd hdd hrp v1 hv1 v2 s hy1) dX3_readTest_3 cv_X3_42 rfl so_70 rc_3 (by omega) (by first | exact Nat.le_of_ble_eq_true rfl | simp [rva_cat, vc_i, vc_r, vc_l, vc_n]) nn0 rfl (pc2 := 6) rfl ?_
  refine e_aload_n dX3_readTest_6 0 rfl rfl (pc2 := 7) rfl ?_
  refine e_getR (r := 36) fl_X3_9 dX3_readTest_7 so_70 (rs_70_0 s2.2.2) (by decide) (pc2 := 10) rfl ?_
  refine e_bipush (x := 60) dX3_readTest_10 (by decide) (pc2 := 12) rfl ?_
  refine e_callVs (t_X8_isSign 60 s2 rfl) dX3_readTest_12 cv_X3_45 rfl so_36 rc_8 (show 1 + 1 ≤ dd + 3 by omega) (by first | exact Nat.le_of_ble_eq_true rfl | simp [rva_cat, vc_i, vc_r, vc_l, vc_n]) nn0 rfl (pc2 := 15) rfl ?_
  refine e_if_ne (tgt := 30) dX3_readTest_15 (by decide) (pc2 := 18) rfl (fun c3 => ?_) (fun c3 => ?_)
  · have hf := if_f c3 hf
    exact t_X3_readTest_j30 rp dd hdd hrp v1 v2 hv1 s2 hf
  · have hf := if_t c3 hf
    refine e_aload_n dX3_readTest_18 0 rfl rfl (pc2 := 19) rfl ?_
    refine e_getR (r := 36) fl_X3_9 dX3_readTest_19 so_70 (rs_70_0 s2.2.2) (by decide) (pc2 := 22) rfl ?_
    refine e_bipush (x := 61) dX3_readTest_22 (by decide) (pc2 := 24) rfl ?_
    refine e_callVs (t_X8_isSign 61 s2 rfl) dX3_readTest_24 cv_X3_45 rfl so_36 rc_8 (show 1 + 1 ≤ dd + 3 by omega) (by first | exact Nat.le_of_ble_eq_true rfl | simp [rva_cat, vc_i, vc_r, vc_l, vc_n]) nn0 rfl (pc2 := 27) rfl ?_
    refine e_if_eq (tgt := 68) dX3_readTest_27 (by decide) (pc2 := 30) rfl (fun c11 => ?_) (fun c11 => ?_)
    · have hf := if_t c11 hf
      cases hf
      exact e_vret rfl dX3_readTest_68
    · have hf := if_f c11 hf
      exact t_X3_readTest_j30 rp dd hdd hrp v1 v2 hv1 s2 hf
def f_X3_readWhole_j61 (rp : Nat → Int32 → HS → Option HS) (v1 : Nat) (v2 : Int32) (v3 : Int32) (w0 : Int32) (k8 : Int32 → HS → Option HS) (s : HS) : Option HS :=
  bnd (f_X8_step s) fun s9 => bnd (f_X3_readTest rp v1 v2 s9) fun s11 => bnd (f_X2_add v1 w0 s11) fun s13 => ltb (v3 + 1) fun x14 => k8 x14 s13
set_option maxRecDepth 20000 in
set_option maxHeartbeats 2000000 in
theorem t_X3_readWhole_j61 (rp : Nat → Int32 → HS → Option HS) (dd : Nat) (hdd : 10 ≤ dd) (hrp : ∀ (v1 : Nat), okX2 v1 = true → ∀ (v2 : Int32) (s : HS) {t : HS}, rp v1 v2 s = some t → Mt dd miX3_readPart [.ref 70, .ref v1, .int v2] NF (hp s) none NF (hp t)) (v1 : Nat) (v2 : Int32) (v3 : Int32) (w0 : Int32) (hv1 : okX2 v1 = true) (s : HS) {t : HS} (k8 : Int32 → HS → Option HS) (hk8 : ∀ (a3 : Int32) (s : HS), k8 a3 s = some t → Ev (dd + 4) miX3_readWhole NF none NF (hp t) 8 NF [(0, .ref 70), (1, .ref v1), (2, .int v2), (3, .int a3)] [] (hp s)) (hf : f_X3_readWhole_j61 rp v1 v2 v3 w0 k8 s = some t) : Ev (dd + 4) miX3_readWhole NF none NF (hp t) 61 NF [(0, .ref 70), (1, .ref v1), (2, .int v2), (3, .int v3)] [.int w0] (hp s) := by
  refine e_istore dX3_readWhole_61 (by decide) rfl (ls' := [(0, .ref 70), (1, .ref v1), (2, .int v2), (3, .int v3), (4, .int w0)]) [1, 2, 3, 4, 0] rfl (pc2 := 63) rfl ?_
  refine e_aload_n dX3_readWhole_63 0 rfl rfl (pc2 := 64) rfl ?_
  refine e_getR (r := 36) fl_X3_9 dX3_readWhole_64 so_70 (rs_70_0 s.2.2) (by decide) (pc2 := 67) rfl ?_
  obtain ⟨s9, hy8, hf⟩ := bnd_s hf
  refine e_callVn (t_X8_step  s hy8) dX3_readWhole_67 cv_X3_35 rfl so_36 rc_8 (show 5 + 1 ≤ dd + 4 by omega) (by first | exact Nat.le_of_ble_eq_true rfl | simp [rva_cat, vc_i, vc_r, vc_l, vc_n]) nn0 rfl (pc2 := 70) rfl ?_
  refine e_aload_n dX3_readWhole_70 0 rfl rfl (pc2 := 71) rfl ?_
  refine e_aload_n dX3_readWhole_71 1 rfl rfl (pc2 := 72) rfl ?_
  refine e_iload_n dX3_readWhole_72 2 rfl rfl (pc2 := 73) rfl ?_
  obtain ⟨s11, hy10, hf⟩ := bnd_s hf
  refine e_callVn (t_X3_readTest rp dd hdd hrp v1 hv1 v2 s9 hy10) dX3_readWhole_73 cv_X3_15 rfl so_70 rc_3 (by omega) (by first | exact Nat.le_of_ble_eq_true rfl | simp [rva_cat, vc_i, vc_r, vc_l, vc_n]) nn0 rfl (pc2 := 76) rfl ?_
  refine e_aload_n dX3_readWhole_76 1 rfl rfl (pc2 := 77) rfl ?_
  refine e_iload dX3_readWhole_77 4 rfl (pc2 := 79) rfl ?_
  obtain ⟨s13, hy12, hf⟩ := bnd_s hf
  refine e_callVn (t_X2_add v1 hv1 w0 s11 hy12) dX3_readWhole_79 cv_X3_38 rfl (okX2_o hv1) rc_2 (show 1 + 1 ≤ dd + 4 by omega) (by first | exact Nat.le_of_ble_eq_true rfl | simp [rva_cat, vc_i, vc_r, vc_l, vc_n]) nn0 rfl (pc2 := 82) rfl ?_
  obtain ⟨x14, ex14, hf⟩ := ltb_s hf
  refine e_iinc dX3_readWhole_82 3 rfl (c9 := 1) (by decide) ex14.symm (by decide) (ls' := [(0, .ref 70), (1, .ref v1), (2, .int v2), (3, .int x14)]) [1, 2, 3, 0] rfl (pc2 := 85) rfl ?_
  refine e_goto (tgt := 8) dX3_readWhole_85 (by decide) ?_
  exact hk8 x14 s13 hf
def f_X3_readWhole_j41 (rp : Nat → Int32 → HS → Option HS) (v1 : Nat) (v2 : Int32) (v3 : Int32) (k8 : Int32 → HS → Option HS) (s : HS) : Option HS :=
  gd (wob (s.2.2.2.2.2.2)) ((if (s.2.2.2.2.2.2) = 1031 then f_X3_readWhole_j61 rp v1 v2 v3 (-6) k8 s else f_X3_readWhole_j61 rp v1 v2 v3 (-7) k8 s))
set_option maxRecDepth 20000 in
set_option maxHeartbeats 2000000 in
theorem t_X3_readWhole_j41 (rp : Nat → Int32 → HS → Option HS) (dd : Nat) (hdd : 10 ≤ dd) (hrp : ∀ (v1 : Nat), okX2 v1 = true → ∀ (v2 : Int32) (s : HS) {t : HS}, rp v1 v2 s = some t → Mt dd miX3_readPart [.ref 70, .ref v1, .int v2] NF (hp s) none NF (hp t)) (v1 : Nat) (v2 : Int32) (v3 : Int32) (hv1 : okX2 v1 = true) (s : HS) {t : HS} (k8 : Int32 → HS → Option HS) (hk8 : ∀ (a3 : Int32) (s : HS), k8 a3 s = some t → Ev (dd + 4) miX3_readWhole NF none NF (hp t) 8 NF [(0, .ref 70), (1, .ref v1), (2, .int v2), (3, .int a3)] [] (hp s)) (hf : f_X3_readWhole_j41 rp v1 v2 v3 k8 s = some t) : Ev (dd + 4) miX3_readWhole NF none NF (hp t) 41 NF [(0, .ref 70), (1, .ref v1), (2, .int v2), (3, .int v3)] [] (hp s) := by
  refine e_aload_n dX3_readWhole_41 0 rfl rfl (pc2 := 42) rfl ?_
  refine e_getR (r := 36) fl_X3_9 dX3_readWhole_42 so_70 (rs_70_0 s.2.2) (by decide) (pc2 := 45) rfl ?_
  obtain ⟨g6, hf⟩ := gd_some hf
  refine e_getQ (w := s.2.2.2.2.2.2) fl_X3_19 dX3_readWhole_45 so_36 rfl (pc2 := 48) rfl ?_
  refine e_getsE (i := 31) (by decide) dX3_readWhole_48 gs_X3_25 (pc2 := 51) rfl ?_
  refine e_acmp_ne (tgt := 59) dX3_readWhole_51 (by decide) (w1 := s.2.2.2.2.2.2) (w2 := 1031) g6 (by decide) (pc2 := 54) rfl (fun c7 => ?_) (fun c7 => ?_)
  · have hf := if_f c7 hf
    refine e_bipush (x := (-7)) dX3_readWhole_59 (by decide) (pc2 := 61) rfl ?_
    exact t_X3_readWhole_j61 rp dd hdd hrp v1 v2 v3 (-7) hv1 s _ hk8 hf
  · have hf := if_t c7 hf
    refine e_bipush (x := (-6)) dX3_readWhole_54 (by decide) (pc2 := 56) rfl ?_
    refine e_goto (tgt := 61) dX3_readWhole_56 (by decide) ?_
    exact t_X3_readWhole_j61 rp dd hdd hrp v1 v2 v3 (-6) hv1 s _ hk8 hf
def f_X3_readWhole_l8b (rp : Nat → Int32 → HS → Option HS) (v1 : Nat) (v2 : Int32) (v3 : Int32) (k8 : Int32 → HS → Option HS) (s : HS) : Option HS :=
  (if 1000 ≤ v3 then some s else gd (wob (s.2.2.2.2.2.2)) ((if (s.2.2.2.2.2.2) = 1031 then f_X3_readWhole_j41 rp v1 v2 v3 k8 s else gd (wob (s.2.2.2.2.2.2)) ((if (s.2.2.2.2.2.2) = 1032 then f_X3_readWhole_j41 rp v1 v2 v3 k8 s else some s)))))
set_option maxRecDepth 20000 in
set_option maxHeartbeats 2000000 in
theorem t_X3_readWhole_l8b (rp : Nat → Int32 → HS → Option HS) (dd : Nat) (hdd : 10 ≤ dd) (hrp : ∀ (v1 : Nat), okX2 v1 = true → ∀ (v2 : Int32) (s : HS) {t : HS}, rp v1 v2 s = some t → Mt dd miX3_readPart [.ref 70, .ref v1, .int v2] NF (hp s) none NF (hp t)) (v1 : Nat) (v2 : Int32) (v3 : Int32) (hv1 : okX2 v1 = true) (s : HS) {t : HS} (k8 : Int32 → HS → Option HS) (hk8 : ∀ (a3 : Int32) (s : HS), k8 a3 s = some t → Ev (dd + 4) miX3_readWhole NF none NF (hp t) 8 NF [(0, .ref 70), (1, .ref v1), (2, .int v2), (3, .int a3)] [] (hp s)) (hf : f_X3_readWhole_l8b rp v1 v2 v3 k8 s = some t) : Ev (dd + 4) miX3_readWhole NF none NF (hp t) 8 NF [(0, .ref 70), (1, .ref v1), (2, .int v2), (3, .int v3)] [] (hp s) := by
  refine e_iload_n dX3_readWhole_8 3 rfl rfl (pc2 := 9) rfl ?_
  refine e_sipush (x := 1000) dX3_readWhole_9 (by decide) (pc2 := 12) rfl ?_
  refine e_icmp_ge (tgt := 88) dX3_readWhole_12 (by decide) (pc2 := 15) rfl (fun c3 => ?_) (fun c3 => ?_)
  · have hf := if_t c3 hf
    cases hf
    exact e_vret rfl dX3_readWhole_88
  · have hf := if_f c3 hf
    refine e_aload_n dX3_readWhole_15 0 rfl rfl (pc2 := 16) rfl ?_
    refine e_getR (r := 36) fl_X3_9 dX3_readWhole_16 so_70 (rs_70_0 s.2.2) (by decide) (pc2 := 19) rfl ?_
    obtain ⟨g4, hf⟩ := gd_some hf
    refine e_getQ (w := s.2.2.2.2.2.2) fl_X3_19 dX3_readWhole_19 so_36 rfl (pc2 := 22) rfl ?_
    refine e_getsE (i := 31) (by decide) dX3_readWhole_22 gs_X3_25 (pc2 := 25) rfl ?_
    refine e_acmp_eq (tgt := 41) dX3_readWhole_25 (by decide) (w1 := s.2.2.2.2.2.2) (w2 := 1031) g4 (by decide) (pc2 := 28) rfl (fun c5 => ?_) (fun c5 => ?_)
    · have hf := if_t c5 hf
      exact t_X3_readWhole_j41 rp dd hdd hrp v1 v2 v3 hv1 s _ hk8 hf
    · have hf := if_f c5 hf
      refine e_aload_n dX3_readWhole_28 0 rfl rfl (pc2 := 29) rfl ?_
      refine e_getR (r := 36) fl_X3_9 dX3_readWhole_29 so_70 (rs_70_0 s.2.2) (by decide) (pc2 := 32) rfl ?_
      obtain ⟨g15, hf⟩ := gd_some hf
      refine e_getQ (w := s.2.2.2.2.2.2) fl_X3_19 dX3_readWhole_32 so_36 rfl (pc2 := 35) rfl ?_
      refine e_getsE (i := 32) (by decide) dX3_readWhole_35 gs_X3_30 (pc2 := 38) rfl ?_
      refine e_acmp_ne (tgt := 88) dX3_readWhole_38 (by decide) (w1 := s.2.2.2.2.2.2) (w2 := 1032) g15 (by decide) (pc2 := 41) rfl (fun c16 => ?_) (fun c16 => ?_)
      · have hf := if_f c16 hf
        cases hf
        exact e_vret rfl dX3_readWhole_88
      · have hf := if_t c16 hf
        exact t_X3_readWhole_j41 rp dd hdd hrp v1 v2 v3 hv1 s _ hk8 hf
def f_X3_readWhole_l8 (rp : Nat → Int32 → HS → Option HS) (v1 : Nat) (v2 : Int32) : Nat → Int32 → HS → Option HS
  | 0, _, _ => none
  | n + 1, v3, s => f_X3_readWhole_l8b rp v1 v2 v3 (f_X3_readWhole_l8 rp v1 v2 n)  s
set_option maxRecDepth 20000 in
set_option maxHeartbeats 2000000 in
theorem t_X3_readWhole_l8 (rp : Nat → Int32 → HS → Option HS) (dd : Nat) (hdd : 10 ≤ dd) (hrp : ∀ (v1 : Nat), okX2 v1 = true → ∀ (v2 : Int32) (s : HS) {t : HS}, rp v1 v2 s = some t → Mt dd miX3_readPart [.ref 70, .ref v1, .int v2] NF (hp s) none NF (hp t)) (v1 : Nat) (v2 : Int32) (hv1 : okX2 v1 = true) {t : HS}  : ∀ (n : Nat) (v3 : Int32) (s : HS), f_X3_readWhole_l8 rp v1 v2 n v3 s = some t → Ev (dd + 4) miX3_readWhole NF none NF (hp t) 8 NF [(0, .ref 70), (1, .ref v1), (2, .int v2), (3, .int v3)] [] (hp s) := by
  intro n
  induction n with
  | zero =>
    intro v3 s hf
    have hf : none = some t := hf
    cases hf
  | succ n ih =>
    intro v3 s hf
    exact t_X3_readWhole_l8b rp dd hdd hrp v1 v2 v3 hv1 s _ ih  hf
def f_X3_readWhole (rp : Nat → Int32 → HS → Option HS) (v1 : Nat) (v2 : Int32) (s : HS) : Option HS :=
  bnd (f_X3_readTest rp v1 v2 s) fun s2 => f_X3_readWhole_l8 rp v1 v2 FU 0 s2
set_option maxRecDepth 20000 in
set_option maxHeartbeats 2000000 in
theorem t_X3_readWhole (rp : Nat → Int32 → HS → Option HS) (dd : Nat) (hdd : 10 ≤ dd) (hrp : ∀ (v1 : Nat), okX2 v1 = true → ∀ (v2 : Int32) (s : HS) {t : HS}, rp v1 v2 s = some t → Mt dd miX3_readPart [.ref 70, .ref v1, .int v2] NF (hp s) none NF (hp t)) (v1 : Nat) (hv1 : okX2 v1 = true) (v2 : Int32) (s : HS) {t : HS} (hf : f_X3_readWhole rp v1 v2 s = some t) : Mt (dd + 4) miX3_readWhole [.ref 70, .ref v1, .int v2] NF (hp s) none NF (hp t) := by
  refine Mt.of (by decide +kernel) (Nat.le_refl _) (Nat.le_of_ble_eq_true rfl) ?_
  show Ev (dd + 4) miX3_readWhole NF none NF (hp t) 0 NF [(0, .ref 70), (1, .ref v1), (2, .int v2)] [] (hp s)
  unfold f_X3_readWhole at hf
  refine e_aload_n dX3_readWhole_0 0 rfl rfl (pc2 := 1) rfl ?_
  refine e_aload_n dX3_readWhole_1 1 rfl rfl (pc2 := 2) rfl ?_
  refine e_iload_n dX3_readWhole_2 2 rfl rfl (pc2 := 3) rfl ?_
  obtain ⟨s2, hy1, hf⟩ := bnd_s hf
  refine e_callVn (t_X3_readTest rp dd hdd hrp v1 hv1 v2 s hy1) dX3_readWhole_3 cv_X3_15 rfl so_70 rc_3 (by omega) (by first | exact Nat.le_of_ble_eq_true rfl | simp [rva_cat, vc_i, vc_r, vc_l, vc_n]) nn0 rfl (pc2 := 6) rfl ?_
  refine e_iconst (x := 0) dX3_readWhole_6 (by decide) (pc2 := 7) rfl ?_
  refine e_istore_n dX3_readWhole_7 rfl (by decide) rfl (ls' := [(0, .ref 70), (1, .ref v1), (2, .int v2), (3, .int 0)]) [1, 2, 3, 0] rfl (pc2 := 8) rfl ?_
  refine t_X3_readWhole_l8 rp dd hdd hrp v1 v2 hv1 FU 0 s2 hf
abbrev DDX3_factOf : Nat := 1
def f_X3_factOf (v0 : Nat) (s : HS) : Int32 :=
  (if v0 = 1033 then (-1) else (if v0 = 1034 then (-2) else (if v0 = 1035 then (-3) else (-4))))
set_option maxRecDepth 20000 in
set_option maxHeartbeats 2000000 in
theorem t_X3_factOf (v0 : Nat) (hv0 : wob v0 = true) (s : HS) {x : Int32} (hf : f_X3_factOf  v0 s = x) : Mt DDX3_factOf miX3_factOf [rva v0] NF (hp s) (some (.int x)) NF (hp s) := by
  refine Mt.of (by decide +kernel) (Nat.le_refl _) (by simp [lg_sl, rva_cat, vc_i, vc_r, vc_l, vc_n]) ?_
  rw [show lv_args 0 [rva v0] = [(0, rva v0)] by simp [lv_args, rva_cat, vc_i, vc_r, vc_l, vc_n]]
  show Ev DDX3_factOf miX3_factOf NF (some (.int x)) NF (hp s) 0 NF [(0, rva v0)] [] (hp s)
  unfold f_X3_factOf at hf
  refine e_aload_nQ (w := v0) dX3_factOf_0 0 rfl rfl (pc2 := 1) rfl ?_
  refine e_getsE (i := 33) (by decide) dX3_factOf_1 gs_X3_82 (pc2 := 4) rfl ?_
  refine e_acmp_ne (tgt := 11) dX3_factOf_4 (by decide) (w1 := v0) (w2 := 1033) hv0 (by decide) (pc2 := 7) rfl (fun c1 => ?_) (fun c1 => ?_)
  · have hf := if_f c1 hf
    refine e_aload_nQ (w := v0) dX3_factOf_11 0 rfl rfl (pc2 := 12) rfl ?_
    refine e_getsE (i := 34) (by decide) dX3_factOf_12 gs_X3_85 (pc2 := 15) rfl ?_
    refine e_acmp_ne (tgt := 23) dX3_factOf_15 (by decide) (w1 := v0) (w2 := 1034) hv0 (by decide) (pc2 := 18) rfl (fun c2 => ?_) (fun c2 => ?_)
    · have hf := if_f c2 hf
      refine e_aload_nQ (w := v0) dX3_factOf_23 0 rfl rfl (pc2 := 24) rfl ?_
      refine e_getsE (i := 35) (by decide) dX3_factOf_24 gs_X3_88 (pc2 := 27) rfl ?_
      refine e_acmp_ne (tgt := 35) dX3_factOf_27 (by decide) (w1 := v0) (w2 := 1035) hv0 (by decide) (pc2 := 30) rfl (fun c3 => ?_) (fun c3 => ?_)
      · have hf := if_f c3 hf
        refine e_bipush (x := (-4)) dX3_factOf_35 (by decide) (pc2 := 37) rfl ?_
        cases hf
        exact e_iret rfl dX3_factOf_37
      · have hf := if_t c3 hf
        refine e_bipush (x := (-3)) dX3_factOf_30 (by decide) (pc2 := 32) rfl ?_
        refine e_goto (tgt := 37) dX3_factOf_32 (by decide) ?_
        cases hf
        exact e_iret rfl dX3_factOf_37
    · have hf := if_t c2 hf
      refine e_bipush (x := (-2)) dX3_factOf_18 (by decide) (pc2 := 20) rfl ?_
      refine e_goto (tgt := 37) dX3_factOf_20 (by decide) ?_
      cases hf
      exact e_iret rfl dX3_factOf_37
  · have hf := if_t c1 hf
    refine e_iconst (x := (-1)) dX3_factOf_7 (by decide) (pc2 := 8) rfl ?_
    refine e_goto (tgt := 37) dX3_factOf_8 (by decide) ?_
    cases hf
    exact e_iret rfl dX3_factOf_37
def f_X3_readPart_j97 (rp : Nat → Int32 → HS → Option HS) (v1 : Nat) (v2 : Int32) (v3 : Int32) (v4 : Int32) (v5 : Int32) (s : HS) : Option HS :=
  (if v2 < 5 then (if v4 = 0 then (if v5 = 0 then (if v3 = 0 then bnd (f_X2_add v1 (s.1 36 6) s) fun s12 => bnd (f_X8_step s12) fun s14 => some s14 else gd (wob (s.2.2.2.2.2.2)) (bnd (f_X2_add v1 (f_X3_factOf (s.2.2.2.2.2.2) s) s) fun s17 => bnd (f_X8_step s17) fun s19 => some s19)) else bnd (f_X8_step s) fun s21 => bnd (f_X3_readWhole rp v1 (v2 + 1) s21) fun s23 => bnd (f_X8_takeSign 41 s23) fun s25 => some s25) else bnd (f_X8_step s) fun s27 => bnd (rp v1 (v2 + 1) s27) fun s29 => bnd (f_X2_add v1 (-5) s29) fun s31 => some s31) else bnd (f_X8_fail 5 s) fun s33 => some s33)
set_option maxRecDepth 20000 in
set_option maxHeartbeats 2000000 in
theorem t_X3_readPart_j97 (rp : Nat → Int32 → HS → Option HS) (dd : Nat) (hdd : 10 ≤ dd) (hrp : ∀ (v1 : Nat), okX2 v1 = true → ∀ (v2 : Int32) (s : HS) {t : HS}, rp v1 v2 s = some t → Mt dd miX3_readPart [.ref 70, .ref v1, .int v2] NF (hp s) none NF (hp t)) (v1 : Nat) (v2 : Int32) (v3 : Int32) (v4 : Int32) (v5 : Int32) (hv1 : okX2 v1 = true) (s : HS) {t : HS}  (hf : f_X3_readPart_j97 rp v1 v2 v3 v4 v5 s = some t) : Ev (dd + 5) miX3_readPart NF none NF (hp t) 97 NF [(0, .ref 70), (1, .ref v1), (2, .int v2), (3, .int v3), (4, .int v4), (5, .int v5)] [] (hp s) := by
  refine e_iload_n dX3_readPart_97 2 rfl rfl (pc2 := 98) rfl ?_
  refine e_iconst (x := 5) dX3_readPart_98 (by decide) (pc2 := 99) rfl ?_
  refine e_icmp_lt (tgt := 113) dX3_readPart_99 (by decide) (pc2 := 102) rfl (fun c7 => ?_) (fun c7 => ?_)
  · have hf := if_t c7 hf
    refine e_iload dX3_readPart_113 4 rfl (pc2 := 115) rfl ?_
    refine e_if_eq (tgt := 142) dX3_readPart_115 (by decide) (pc2 := 118) rfl (fun c8 => ?_) (fun c8 => ?_)
    · have hf := if_t c8 hf
      refine e_iload dX3_readPart_142 5 rfl (pc2 := 144) rfl ?_
      refine e_if_eq (tgt := 174) dX3_readPart_144 (by decide) (pc2 := 147) rfl (fun c9 => ?_) (fun c9 => ?_)
      · have hf := if_t c9 hf
        refine e_aload_n dX3_readPart_174 1 rfl rfl (pc2 := 175) rfl ?_
        refine e_iload_n dX3_readPart_175 3 rfl rfl (pc2 := 176) rfl ?_
        refine e_if_eq (tgt := 192) dX3_readPart_176 (by decide) (pc2 := 179) rfl (fun c10 => ?_) (fun c10 => ?_)
        · have hf := if_t c10 hf
          refine e_aload_n dX3_readPart_192 0 rfl rfl (pc2 := 193) rfl ?_
          refine e_getR (r := 36) fl_X3_9 dX3_readPart_193 so_70 (rs_70_0 s.2.2) (by decide) (pc2 := 196) rfl ?_
          refine e_getI fl_X3_79 dX3_readPart_196 so_36 (by decide) (pc2 := 199) rfl ?_
          obtain ⟨s12, hy11, hf⟩ := bnd_s hf
          refine e_callVn (t_X2_add v1 hv1 (s.1 36 6) s hy11) dX3_readPart_199 cv_X3_38 rfl (okX2_o hv1) rc_2 (show 1 + 1 ≤ dd + 5 by omega) (by first | exact Nat.le_of_ble_eq_true rfl | simp [rva_cat, vc_i, vc_r, vc_l, vc_n]) nn0 rfl (pc2 := 202) rfl ?_
          refine e_aload_n dX3_readPart_202 0 rfl rfl (pc2 := 203) rfl ?_
          refine e_getR (r := 36) fl_X3_9 dX3_readPart_203 so_70 (rs_70_0 s12.2.2) (by decide) (pc2 := 206) rfl ?_
          obtain ⟨s14, hy13, hf⟩ := bnd_s hf
          refine e_callVn (t_X8_step  s12 hy13) dX3_readPart_206 cv_X3_35 rfl so_36 rc_8 (show 5 + 1 ≤ dd + 5 by omega) (by first | exact Nat.le_of_ble_eq_true rfl | simp [rva_cat, vc_i, vc_r, vc_l, vc_n]) nn0 rfl (pc2 := 209) rfl ?_
          cases hf
          exact e_vret rfl dX3_readPart_209
        · have hf := if_f c10 hf
          refine e_aload_n dX3_readPart_179 0 rfl rfl (pc2 := 180) rfl ?_
          refine e_getR (r := 36) fl_X3_9 dX3_readPart_180 so_70 (rs_70_0 s.2.2) (by decide) (pc2 := 183) rfl ?_
          obtain ⟨g15, hf⟩ := gd_some hf
          refine e_getQ (w := s.2.2.2.2.2.2) fl_X3_19 dX3_readPart_183 so_36 rfl (pc2 := 186) rfl ?_
          refine e_callSs (t_X3_factOf (s.2.2.2.2.2.2) g15 s rfl) dX3_readPart_186 cs_X3_75 rfl (show 1 + 1 ≤ dd + 5 by omega) (by first | exact Nat.le_of_ble_eq_true rfl | simp [rva_cat, vc_i, vc_r, vc_l, vc_n]) nn0 rfl (pc2 := 189) rfl ?_
          refine e_goto (tgt := 199) dX3_readPart_189 (by decide) ?_
          obtain ⟨s17, hy16, hf⟩ := bnd_s hf
          refine e_callVn (t_X2_add v1 hv1 (f_X3_factOf (s.2.2.2.2.2.2) s) s hy16) dX3_readPart_199 cv_X3_38 rfl (okX2_o hv1) rc_2 (show 1 + 1 ≤ dd + 5 by omega) (by first | exact Nat.le_of_ble_eq_true rfl | simp [rva_cat, vc_i, vc_r, vc_l, vc_n]) nn0 rfl (pc2 := 202) rfl ?_
          refine e_aload_n dX3_readPart_202 0 rfl rfl (pc2 := 203) rfl ?_
          refine e_getR (r := 36) fl_X3_9 dX3_readPart_203 so_70 (rs_70_0 s17.2.2) (by decide) (pc2 := 206) rfl ?_
          obtain ⟨s19, hy18, hf⟩ := bnd_s hf
          refine e_callVn (t_X8_step  s17 hy18) dX3_readPart_206 cv_X3_35 rfl so_36 rc_8 (show 5 + 1 ≤ dd + 5 by omega) (by first | exact Nat.le_of_ble_eq_true rfl | simp [rva_cat, vc_i, vc_r, vc_l, vc_n]) nn0 rfl (pc2 := 209) rfl ?_
          cases hf
          exact e_vret rfl dX3_readPart_209
      · have hf := if_f c9 hf
        refine e_aload_n dX3_readPart_147 0 rfl rfl (pc2 := 148) rfl ?_
        refine e_getR (r := 36) fl_X3_9 dX3_readPart_148 so_70 (rs_70_0 s.2.2) (by decide) (pc2 := 151) rfl ?_
        obtain ⟨s21, hy20, hf⟩ := bnd_s hf
        refine e_callVn (t_X8_step  s hy20) dX3_readPart_151 cv_X3_35 rfl so_36 rc_8 (show 5 + 1 ≤ dd + 5 by omega) (by first | exact Nat.le_of_ble_eq_true rfl | simp [rva_cat, vc_i, vc_r, vc_l, vc_n]) nn0 rfl (pc2 := 154) rfl ?_
        refine e_aload_n dX3_readPart_154 0 rfl rfl (pc2 := 155) rfl ?_
        refine e_aload_n dX3_readPart_155 1 rfl rfl (pc2 := 156) rfl ?_
        refine e_iload_n dX3_readPart_156 2 rfl rfl (pc2 := 157) rfl ?_
        refine e_iconst (x := 1) dX3_readPart_157 (by decide) (pc2 := 158) rfl ?_
        refine e_iadd dX3_readPart_158 (pc2 := 159) rfl ?_
        obtain ⟨s23, hy22, hf⟩ := bnd_s hf
        refine e_callVn (t_X3_readWhole rp dd hdd hrp v1 hv1 (v2 + 1) s21 hy22) dX3_readPart_159 cv_X3_68 rfl so_70 rc_3 (by omega) (by first | exact Nat.le_of_ble_eq_true rfl | simp [rva_cat, vc_i, vc_r, vc_l, vc_n]) nn0 rfl (pc2 := 162) rfl ?_
        refine e_aload_n dX3_readPart_162 0 rfl rfl (pc2 := 163) rfl ?_
        refine e_getR (r := 36) fl_X3_9 dX3_readPart_163 so_70 (rs_70_0 s23.2.2) (by decide) (pc2 := 166) rfl ?_
        refine e_bipush (x := 41) dX3_readPart_166 (by decide) (pc2 := 168) rfl ?_
        obtain ⟨s25, hy24, hf⟩ := bnd_s hf
        refine e_callVn (t_X8_takeSign 41 s23 hy24) dX3_readPart_168 cv_X3_71 rfl so_36 rc_8 (show 6 + 1 ≤ dd + 5 by omega) (by first | exact Nat.le_of_ble_eq_true rfl | simp [rva_cat, vc_i, vc_r, vc_l, vc_n]) nn0 rfl (pc2 := 171) rfl ?_
        refine e_goto (tgt := 209) dX3_readPart_171 (by decide) ?_
        cases hf
        exact e_vret rfl dX3_readPart_209
    · have hf := if_f c8 hf
      refine e_aload_n dX3_readPart_118 0 rfl rfl (pc2 := 119) rfl ?_
      refine e_getR (r := 36) fl_X3_9 dX3_readPart_119 so_70 (rs_70_0 s.2.2) (by decide) (pc2 := 122) rfl ?_
      obtain ⟨s27, hy26, hf⟩ := bnd_s hf
      refine e_callVn (t_X8_step  s hy26) dX3_readPart_122 cv_X3_35 rfl so_36 rc_8 (show 5 + 1 ≤ dd + 5 by omega) (by first | exact Nat.le_of_ble_eq_true rfl | simp [rva_cat, vc_i, vc_r, vc_l, vc_n]) nn0 rfl (pc2 := 125) rfl ?_
      refine e_aload_n dX3_readPart_125 0 rfl rfl (pc2 := 126) rfl ?_
      refine e_aload_n dX3_readPart_126 1 rfl rfl (pc2 := 127) rfl ?_
      refine e_iload_n dX3_readPart_127 2 rfl rfl (pc2 := 128) rfl ?_
      refine e_iconst (x := 1) dX3_readPart_128 (by decide) (pc2 := 129) rfl ?_
      refine e_iadd dX3_readPart_129 (pc2 := 130) rfl ?_
      obtain ⟨s29, hy28, hf⟩ := bnd_s hf
      refine e_callVn (hrp v1 hv1 (v2 + 1) s27 hy28) dX3_readPart_130 cv_X3_52 rfl so_70 rc_3 (by omega) (by first | exact Nat.le_of_ble_eq_true rfl | simp [rva_cat, vc_i, vc_r, vc_l, vc_n]) nn0 rfl (pc2 := 133) rfl ?_
      refine e_aload_n dX3_readPart_133 1 rfl rfl (pc2 := 134) rfl ?_
      refine e_bipush (x := (-5)) dX3_readPart_134 (by decide) (pc2 := 136) rfl ?_
      obtain ⟨s31, hy30, hf⟩ := bnd_s hf
      refine e_callVn (t_X2_add v1 hv1 (-5) s29 hy30) dX3_readPart_136 cv_X3_38 rfl (okX2_o hv1) rc_2 (show 1 + 1 ≤ dd + 5 by omega) (by first | exact Nat.le_of_ble_eq_true rfl | simp [rva_cat, vc_i, vc_r, vc_l, vc_n]) nn0 rfl (pc2 := 139) rfl ?_
      refine e_goto (tgt := 209) dX3_readPart_139 (by decide) ?_
      cases hf
      exact e_vret rfl dX3_readPart_209
  · have hf := if_f c7 hf
    refine e_aload_n dX3_readPart_102 0 rfl rfl (pc2 := 103) rfl ?_
    refine e_getR (r := 36) fl_X3_9 dX3_readPart_103 so_70 (rs_70_0 s.2.2) (by decide) (pc2 := 106) rfl ?_
    refine e_iconst (x := 5) dX3_readPart_106 (by decide) (pc2 := 107) rfl ?_
    obtain ⟨s33, hy32, hf⟩ := bnd_s hf
    refine e_callVn (t_X8_fail 5 s hy32) dX3_readPart_107 cv_X3_65 rfl so_36 rc_8 (show 1 + 1 ≤ dd + 5 by omega) (by first | exact Nat.le_of_ble_eq_true rfl | simp [rva_cat, vc_i, vc_r, vc_l, vc_n]) nn0 rfl (pc2 := 110) rfl ?_
    refine e_goto (tgt := 209) dX3_readPart_110 (by decide) ?_
    cases hf
    exact e_vret rfl dX3_readPart_209
def f_X3_readPart_j48 (rp : Nat → Int32 → HS → Option HS) (v1 : Nat) (v2 : Int32) (v3 : Int32) (w0 : Int32) (s : HS) : Option HS :=
  ltb (f_X8_isSign 40 s) fun x5 => (if (s.1 36 4) = 2 then f_X3_readPart_j97 rp v1 v2 v3 w0 x5 s else (if v3 = 0 then (if w0 = 0 then (if x5 = 0 then bnd (f_X8_fail 1 s) fun s38 => some s38 else f_X3_readPart_j97 rp v1 v2 v3 w0 x5 s) else f_X3_readPart_j97 rp v1 v2 v3 w0 x5 s) else f_X3_readPart_j97 rp v1 v2 v3 w0 x5 s))
set_option maxRecDepth 20000 in
set_option maxHeartbeats 2000000 in
theorem t_X3_readPart_j48 (rp : Nat → Int32 → HS → Option HS) (dd : Nat) (hdd : 10 ≤ dd) (hrp : ∀ (v1 : Nat), okX2 v1 = true → ∀ (v2 : Int32) (s : HS) {t : HS}, rp v1 v2 s = some t → Mt dd miX3_readPart [.ref 70, .ref v1, .int v2] NF (hp s) none NF (hp t)) (v1 : Nat) (v2 : Int32) (v3 : Int32) (w0 : Int32) (hv1 : okX2 v1 = true) (s : HS) {t : HS}  (hf : f_X3_readPart_j48 rp v1 v2 v3 w0 s = some t) : Ev (dd + 5) miX3_readPart NF none NF (hp t) 48 NF [(0, .ref 70), (1, .ref v1), (2, .int v2), (3, .int v3)] [.int w0] (hp s) := by
  refine e_istore dX3_readPart_48 (by decide) rfl (ls' := [(0, .ref 70), (1, .ref v1), (2, .int v2), (3, .int v3), (4, .int w0)]) [1, 2, 3, 4, 0] rfl (pc2 := 50) rfl ?_
  refine e_aload_n dX3_readPart_50 0 rfl rfl (pc2 := 51) rfl ?_
  refine e_getR (r := 36) fl_X3_9 dX3_readPart_51 so_70 (rs_70_0 s.2.2) (by decide) (pc2 := 54) rfl ?_
  refine e_bipush (x := 40) dX3_readPart_54 (by decide) (pc2 := 56) rfl ?_
  refine e_callVs (t_X8_isSign 40 s rfl) dX3_readPart_56 cv_X3_45 rfl so_36 rc_8 (show 1 + 1 ≤ dd + 5 by omega) (by first | exact Nat.le_of_ble_eq_true rfl | simp [rva_cat, vc_i, vc_r, vc_l, vc_n]) nn0 rfl (pc2 := 59) rfl ?_
  obtain ⟨x5, ex5, hf⟩ := ltb_s hf
  refine e_istore dX3_readPart_59 (by decide) ex5.symm (ls' := [(0, .ref 70), (1, .ref v1), (2, .int v2), (3, .int v3), (4, .int w0), (5, .int x5)]) [1, 2, 3, 4, 5, 0] rfl (pc2 := 61) rfl ?_
  refine e_aload_n dX3_readPart_61 0 rfl rfl (pc2 := 62) rfl ?_
  refine e_getR (r := 36) fl_X3_9 dX3_readPart_62 so_70 (rs_70_0 s.2.2) (by decide) (pc2 := 65) rfl ?_
  refine e_getI fl_X3_62 dX3_readPart_65 so_36 (by decide) (pc2 := 68) rfl ?_
  refine e_iconst (x := 2) dX3_readPart_68 (by decide) (pc2 := 69) rfl ?_
  refine e_icmp_eq (tgt := 97) dX3_readPart_69 (by decide) (pc2 := 72) rfl (fun c6 => ?_) (fun c6 => ?_)
  · have hf := if_t c6 hf
    exact t_X3_readPart_j97 rp dd hdd hrp v1 v2 v3 w0 x5 hv1 s hf
  · have hf := if_f c6 hf
    refine e_iload_n dX3_readPart_72 3 rfl rfl (pc2 := 73) rfl ?_
    refine e_if_ne (tgt := 97) dX3_readPart_73 (by decide) (pc2 := 76) rfl (fun c34 => ?_) (fun c34 => ?_)
    · have hf := if_f c34 hf
      exact t_X3_readPart_j97 rp dd hdd hrp v1 v2 v3 w0 x5 hv1 s hf
    · have hf := if_t c34 hf
      refine e_iload dX3_readPart_76 4 rfl (pc2 := 78) rfl ?_
      refine e_if_ne (tgt := 97) dX3_readPart_78 (by decide) (pc2 := 81) rfl (fun c35 => ?_) (fun c35 => ?_)
      · have hf := if_f c35 hf
        exact t_X3_readPart_j97 rp dd hdd hrp v1 v2 v3 w0 x5 hv1 s hf
      · have hf := if_t c35 hf
        refine e_iload dX3_readPart_81 5 rfl (pc2 := 83) rfl ?_
        refine e_if_ne (tgt := 97) dX3_readPart_83 (by decide) (pc2 := 86) rfl (fun c36 => ?_) (fun c36 => ?_)
        · have hf := if_f c36 hf
          exact t_X3_readPart_j97 rp dd hdd hrp v1 v2 v3 w0 x5 hv1 s hf
        · have hf := if_t c36 hf
          refine e_aload_n dX3_readPart_86 0 rfl rfl (pc2 := 87) rfl ?_
          refine e_getR (r := 36) fl_X3_9 dX3_readPart_87 so_70 (rs_70_0 s.2.2) (by decide) (pc2 := 90) rfl ?_
          refine e_iconst (x := 1) dX3_readPart_90 (by decide) (pc2 := 91) rfl ?_
          obtain ⟨s38, hy37, hf⟩ := bnd_s hf
          refine e_callVn (t_X8_fail 1 s hy37) dX3_readPart_91 cv_X3_65 rfl so_36 rc_8 (show 1 + 1 ≤ dd + 5 by omega) (by first | exact Nat.le_of_ble_eq_true rfl | simp [rva_cat, vc_i, vc_r, vc_l, vc_n]) nn0 rfl (pc2 := 94) rfl ?_
          refine e_goto (tgt := 209) dX3_readPart_94 (by decide) ?_
          cases hf
          exact e_vret rfl dX3_readPart_209
def f_X3_readPart_j29 (rp : Nat → Int32 → HS → Option HS) (v1 : Nat) (v2 : Int32) (w0 : Int32) (s : HS) : Option HS :=
  gd (wob (s.2.2.2.2.2.2)) ((if (s.2.2.2.2.2.2) = 1030 then f_X3_readPart_j48 rp v1 v2 w0 1 s else f_X3_readPart_j48 rp v1 v2 w0 0 s))
set_option maxRecDepth 20000 in
set_option maxHeartbeats 2000000 in
theorem t_X3_readPart_j29 (rp : Nat → Int32 → HS → Option HS) (dd : Nat) (hdd : 10 ≤ dd) (hrp : ∀ (v1 : Nat), okX2 v1 = true → ∀ (v2 : Int32) (s : HS) {t : HS}, rp v1 v2 s = some t → Mt dd miX3_readPart [.ref 70, .ref v1, .int v2] NF (hp s) none NF (hp t)) (v1 : Nat) (v2 : Int32) (w0 : Int32) (hv1 : okX2 v1 = true) (s : HS) {t : HS}  (hf : f_X3_readPart_j29 rp v1 v2 w0 s = some t) : Ev (dd + 5) miX3_readPart NF none NF (hp t) 29 NF [(0, .ref 70), (1, .ref v1), (2, .int v2)] [.int w0] (hp s) := by
  refine e_istore_n dX3_readPart_29 rfl (by decide) rfl (ls' := [(0, .ref 70), (1, .ref v1), (2, .int v2), (3, .int w0)]) [1, 2, 3, 0] rfl (pc2 := 30) rfl ?_
  refine e_aload_n dX3_readPart_30 0 rfl rfl (pc2 := 31) rfl ?_
  refine e_getR (r := 36) fl_X3_9 dX3_readPart_31 so_70 (rs_70_0 s.2.2) (by decide) (pc2 := 34) rfl ?_
  obtain ⟨g3, hf⟩ := gd_some hf
  refine e_getQ (w := s.2.2.2.2.2.2) fl_X3_19 dX3_readPart_34 so_36 rfl (pc2 := 37) rfl ?_
  refine e_getsE (i := 30) (by decide) dX3_readPart_37 gs_X3_59 (pc2 := 40) rfl ?_
  refine e_acmp_ne (tgt := 47) dX3_readPart_40 (by decide) (w1 := s.2.2.2.2.2.2) (w2 := 1030) g3 (by decide) (pc2 := 43) rfl (fun c4 => ?_) (fun c4 => ?_)
  · have hf := if_f c4 hf
    refine e_iconst (x := 0) dX3_readPart_47 (by decide) (pc2 := 48) rfl ?_
    exact t_X3_readPart_j48 rp dd hdd hrp v1 v2 w0 0 hv1 s hf
  · have hf := if_t c4 hf
    refine e_iconst (x := 1) dX3_readPart_43 (by decide) (pc2 := 44) rfl ?_
    refine e_goto (tgt := 48) dX3_readPart_44 (by decide) ?_
    exact t_X3_readPart_j48 rp dd hdd hrp v1 v2 w0 1 hv1 s hf
def f_X3_readPart_j28 (rp : Nat → Int32 → HS → Option HS) (v1 : Nat) (v2 : Int32) (s : HS) : Option HS :=
  f_X3_readPart_j29 rp v1 v2 0 s
set_option maxRecDepth 20000 in
set_option maxHeartbeats 2000000 in
theorem t_X3_readPart_j28 (rp : Nat → Int32 → HS → Option HS) (dd : Nat) (hdd : 10 ≤ dd) (hrp : ∀ (v1 : Nat), okX2 v1 = true → ∀ (v2 : Int32) (s : HS) {t : HS}, rp v1 v2 s = some t → Mt dd miX3_readPart [.ref 70, .ref v1, .int v2] NF (hp s) none NF (hp t)) (v1 : Nat) (v2 : Int32) (hv1 : okX2 v1 = true) (s : HS) {t : HS}  (hf : f_X3_readPart_j28 rp v1 v2 s = some t) : Ev (dd + 5) miX3_readPart NF none NF (hp t) 28 NF [(0, .ref 70), (1, .ref v1), (2, .int v2)] [] (hp s) := by
  refine e_iconst (x := 0) dX3_readPart_28 (by decide) (pc2 := 29) rfl ?_
  exact t_X3_readPart_j29 rp dd hdd hrp v1 v2 0 hv1 s hf
def f_X3_readPartb (rp : Nat → Int32 → HS → Option HS) (v1 : Nat) (v2 : Int32) (s : HS) : Option HS :=
  gd (wob (s.2.2.2.2.2.2)) ((if (s.2.2.2.2.2.2) = 0 then f_X3_readPart_j28 rp v1 v2 s else gd (wob (s.2.2.2.2.2.2)) (gd (woc (s.2.2.2.2.2.2)) ((if (onceL.getD (s.2.2.2.2.2.2 - 1000) 0) = (-1) then f_X3_readPart_j29 rp v1 v2 1 s else f_X3_readPart_j28 rp v1 v2 s)))))
set_option maxRecDepth 20000 in
set_option maxHeartbeats 2000000 in
theorem t_X3_readPartb (rp : Nat → Int32 → HS → Option HS) (dd : Nat) (hdd : 10 ≤ dd) (hrp : ∀ (v1 : Nat), okX2 v1 = true → ∀ (v2 : Int32) (s : HS) {t : HS}, rp v1 v2 s = some t → Mt dd miX3_readPart [.ref 70, .ref v1, .int v2] NF (hp s) none NF (hp t)) (v1 : Nat) (hv1 : okX2 v1 = true) (v2 : Int32) (s : HS) {t : HS} (hf : f_X3_readPartb rp v1 v2 s = some t) : Mt (dd + 5) miX3_readPart [.ref 70, .ref v1, .int v2] NF (hp s) none NF (hp t) := by
  refine Mt.of (by decide +kernel) (Nat.le_refl _) (Nat.le_of_ble_eq_true rfl) ?_
  show Ev (dd + 5) miX3_readPart NF none NF (hp t) 0 NF [(0, .ref 70), (1, .ref v1), (2, .int v2)] [] (hp s)
  unfold f_X3_readPartb at hf
  refine e_aload_n dX3_readPart_0 0 rfl rfl (pc2 := 1) rfl ?_
  refine e_getR (r := 36) fl_X3_9 dX3_readPart_1 so_70 (rs_70_0 s.2.2) (by decide) (pc2 := 4) rfl ?_
  obtain ⟨g1, hf⟩ := gd_some hf
  refine e_getQ (w := s.2.2.2.2.2.2) fl_X3_19 dX3_readPart_4 so_36 rfl (pc2 := 7) rfl ?_
  refine e_ifnullQ (tgt := 28) dX3_readPart_7 (by decide) (w := s.2.2.2.2.2.2) (pc2 := 10) rfl (fun c2 => ?_) (fun c2 => ?_)
  · have hf := if_t c2 hf
    exact t_X3_readPart_j28 rp dd hdd hrp v1 v2 hv1 s hf
  · have hf := if_f c2 hf
    refine e_aload_n dX3_readPart_10 0 rfl rfl (pc2 := 11) rfl ?_
    refine e_getR (r := 36) fl_X3_9 dX3_readPart_11 so_70 (rs_70_0 s.2.2) (by decide) (pc2 := 14) rfl ?_
    obtain ⟨g39, hf⟩ := gd_some hf
    refine e_getQ (w := s.2.2.2.2.2.2) fl_X3_19 dX3_readPart_14 so_36 rfl (pc2 := 17) rfl ?_
    obtain ⟨g40, hf⟩ := gd_some hf
    refine e_getEoQ (w := s.2.2.2.2.2.2) g40 dX3_readPart_17 eo_X3_55 (pc2 := 20) rfl ?_
    refine e_iconst (x := (-1)) dX3_readPart_20 (by decide) (pc2 := 21) rfl ?_
    refine e_icmp_ne (tgt := 28) dX3_readPart_21 (by decide) (pc2 := 24) rfl (fun c41 => ?_) (fun c41 => ?_)
    · have hf := if_f c41 hf
      exact t_X3_readPart_j28 rp dd hdd hrp v1 v2 hv1 s hf
    · have hf := if_t c41 hf
      refine e_iconst (x := 1) dX3_readPart_24 (by decide) (pc2 := 25) rfl ?_
      refine e_goto (tgt := 29) dX3_readPart_25 (by decide) ?_
      exact t_X3_readPart_j29 rp dd hdd hrp v1 v2 1 hv1 s hf
def f_X3_readPart : Nat → Nat → Int32 → HS → Option HS
  | 0, _, _, _ => none
  | n + 1, v1, v2, s => f_X3_readPartb (f_X3_readPart n) v1 v2 s
set_option maxRecDepth 20000 in
set_option maxHeartbeats 2000000 in
theorem t_X3_readPart : ∀ (n : Nat) (v1 : Nat), okX2 v1 = true → ∀ (v2 : Int32) (s : HS) {t : HS}, f_X3_readPart n v1 v2 s = some t → Mt (10 + 5 * n) miX3_readPart [.ref 70, .ref v1, .int v2] NF (hp s) none NF (hp t) := by
  intro n
  induction n with
  | zero =>
    intro v1 hv1 v2 s t hf
    have hf : none = some t := hf
    cases hf
  | succ n ih =>
    intro v1 hv1 v2 s t hf
    have h := t_X3_readPartb (f_X3_readPart n) (10 + 5 * n) (by omega) (fun v1 h v2 s => ih v1 h v2 s) v1 hv1 v2 s hf
    rw [show 10 + 5 * (n + 1) = 10 + 5 * n + 5 by omega]
    exact h
abbrev DDX4_clear : Nat := 1
def f_X4_clear (p : Nat) (s : HS) : Option HS :=
  ltb (sI s p 0 600) fun s1 => ltb (sI s1 p 1 540) fun s2 => ltb (sI s2 p 2 2) fun s3 => ltb (sI s3 p 3 10) fun s4 => ltb (sI s4 p 4 60) fun s5 => ltb (sI s5 p 5 30) fun s6 => ltb (sI s6 p 6 5) fun s7 => ltb (sI s7 (Rf p 7) (0) 10) fun s8 => ltb (sI s8 (Rf p 7) (1) 0) fun s9 => ltb (sI s9 (Rf p 7) (2) 0) fun s10 => ltb (sI s10 (Rf p 7) (3) 0) fun s11 => ltb (sI s11 (Rf p 8) 1 0) fun s12 => ltb (sI s12 p 9 0) fun s13 => ltb (sI s13 p 12 0) fun s14 => ltb (sI s14 p 14 0) fun s15 => some s15
set_option maxRecDepth 20000 in
set_option maxHeartbeats 2000000 in
theorem t_X4_clear (p : Nat) (hp_ : okX4 p = true) (s : HS) {t : HS} (hf : f_X4_clear  p s = some t) : Mt DDX4_clear miX4_clear [.ref p] NF (hp s) none NF (hp t) := by
  refine Mt.of (by decide +kernel) (Nat.le_refl _) (Nat.le_of_ble_eq_true rfl) ?_
  show Ev DDX4_clear miX4_clear NF none NF (hp t) 0 NF [(0, .ref p)] [] (hp s)
  unfold f_X4_clear at hf
  refine e_aload_n dX4_clear_0 0 rfl rfl (pc2 := 1) rfl ?_
  refine e_sipush (x := 600) dX4_clear_1 (by decide) (pc2 := 4) rfl ?_
  obtain ⟨s1, es1, hf⟩ := ltb_s hf
  refine e_putI fl_X4_46 dX4_clear_4 (okX4_o hp_) fn_4_0 (h2 := hp s1) (by rw [es1]; rfl) (pc2 := 7) rfl ?_
  refine e_aload_n dX4_clear_7 0 rfl rfl (pc2 := 8) rfl ?_
  refine e_sipush (x := 540) dX4_clear_8 (by decide) (pc2 := 11) rfl ?_
  obtain ⟨s2, es2, hf⟩ := ltb_s hf
  refine e_putI fl_X4_50 dX4_clear_11 (okX4_o hp_) fn_4_1 (h2 := hp s2) (by rw [es2]; rfl) (pc2 := 14) rfl ?_
  refine e_aload_n dX4_clear_14 0 rfl rfl (pc2 := 15) rfl ?_
  refine e_iconst (x := 2) dX4_clear_15 (by decide) (pc2 := 16) rfl ?_
  obtain ⟨s3, es3, hf⟩ := ltb_s hf
  refine e_putI fl_X4_53 dX4_clear_16 (okX4_o hp_) fn_4_2 (h2 := hp s3) (by rw [es3]; rfl) (pc2 := 19) rfl ?_
  refine e_aload_n dX4_clear_19 0 rfl rfl (pc2 := 20) rfl ?_
  refine e_bipush (x := 10) dX4_clear_20 (by decide) (pc2 := 22) rfl ?_
  obtain ⟨s4, es4, hf⟩ := ltb_s hf
  refine e_putI fl_X4_56 dX4_clear_22 (okX4_o hp_) fn_4_3 (h2 := hp s4) (by rw [es4]; rfl) (pc2 := 25) rfl ?_
  refine e_aload_n dX4_clear_25 0 rfl rfl (pc2 := 26) rfl ?_
  refine e_bipush (x := 60) dX4_clear_26 (by decide) (pc2 := 28) rfl ?_
  obtain ⟨s5, es5, hf⟩ := ltb_s hf
  refine e_putI fl_X4_59 dX4_clear_28 (okX4_o hp_) fn_4_4 (h2 := hp s5) (by rw [es5]; rfl) (pc2 := 31) rfl ?_
  refine e_aload_n dX4_clear_31 0 rfl rfl (pc2 := 32) rfl ?_
  refine e_bipush (x := 30) dX4_clear_32 (by decide) (pc2 := 34) rfl ?_
  obtain ⟨s6, es6, hf⟩ := ltb_s hf
  refine e_putI fl_X4_62 dX4_clear_34 (okX4_o hp_) fn_4_5 (h2 := hp s6) (by rw [es6]; rfl) (pc2 := 37) rfl ?_
  refine e_aload_n dX4_clear_37 0 rfl rfl (pc2 := 38) rfl ?_
  refine e_iconst (x := 5) dX4_clear_38 (by decide) (pc2 := 39) rfl ?_
  obtain ⟨s7, es7, hf⟩ := ltb_s hf
  refine e_putI fl_X4_65 dX4_clear_39 (okX4_o hp_) fn_4_6 (h2 := hp s7) (by rw [es7]; rfl) (pc2 := 42) rfl ?_
  refine e_aload_n dX4_clear_42 0 rfl rfl (pc2 := 43) rfl ?_
  refine e_getR (r := Rf p 7) fl_X4_9 dX4_clear_43 (okX4_o hp_) (okX4_R hp_) (isA_ne (okX4_late hp_)) (pc2 := 46) rfl ?_
  refine e_iconst (x := 0) dX4_clear_46 (by decide) (pc2 := 47) rfl ?_
  refine e_bipush (x := 10) dX4_clear_47 (by decide) (pc2 := 49) rfl ?_
  obtain ⟨s8, es8, hf⟩ := ltb_s hf
  refine e_iast dX4_clear_49 (okX4_late hp_) (inb_v (by decide)) (h2 := hp s8) (by rw [es8]; rfl) (pc2 := 50) rfl ?_
  refine e_aload_n dX4_clear_50 0 rfl rfl (pc2 := 51) rfl ?_
  refine e_getR (r := Rf p 7) fl_X4_9 dX4_clear_51 (okX4_o hp_) (okX4_R hp_) (isA_ne (okX4_late hp_)) (pc2 := 54) rfl ?_
  refine e_iconst (x := 1) dX4_clear_54 (by decide) (pc2 := 55) rfl ?_
  refine e_iconst (x := 0) dX4_clear_55 (by decide) (pc2 := 56) rfl ?_
  obtain ⟨s9, es9, hf⟩ := ltb_s hf
  refine e_iast dX4_clear_56 (okX4_late hp_) (inb_v (by decide)) (h2 := hp s9) (by rw [es9]; rfl) (pc2 := 57) rfl ?_
  refine e_aload_n dX4_clear_57 0 rfl rfl (pc2 := 58) rfl ?_
  refine e_getR (r := Rf p 7) fl_X4_9 dX4_clear_58 (okX4_o hp_) (okX4_R hp_) (isA_ne (okX4_late hp_)) (pc2 := 61) rfl ?_
  refine e_iconst (x := 2) dX4_clear_61 (by decide) (pc2 := 62) rfl ?_
  refine e_iconst (x := 0) dX4_clear_62 (by decide) (pc2 := 63) rfl ?_
  obtain ⟨s10, es10, hf⟩ := ltb_s hf
  refine e_iast dX4_clear_63 (okX4_late hp_) (inb_v (by decide)) (h2 := hp s10) (by rw [es10]; rfl) (pc2 := 64) rfl ?_
  refine e_aload_n dX4_clear_64 0 rfl rfl (pc2 := 65) rfl ?_
  refine e_getR (r := Rf p 7) fl_X4_9 dX4_clear_65 (okX4_o hp_) (okX4_R hp_) (isA_ne (okX4_late hp_)) (pc2 := 68) rfl ?_
  refine e_iconst (x := 3) dX4_clear_68 (by decide) (pc2 := 69) rfl ?_
  refine e_iconst (x := 0) dX4_clear_69 (by decide) (pc2 := 70) rfl ?_
  obtain ⟨s11, es11, hf⟩ := ltb_s hf
  refine e_iast dX4_clear_70 (okX4_late hp_) (inb_v (by decide)) (h2 := hp s11) (by rw [es11]; rfl) (pc2 := 71) rfl ?_
  refine e_aload_n dX4_clear_71 0 rfl rfl (pc2 := 72) rfl ?_
  refine e_getR (r := Rf p 8) fl_X4_18 dX4_clear_72 (okX4_o hp_) (okX4_R hp_) (okX2_ne (okX4_order hp_)) (pc2 := 75) rfl ?_
  refine e_iconst (x := 0) dX4_clear_75 (by decide) (pc2 := 76) rfl ?_
  obtain ⟨s12, es12, hf⟩ := ltb_s hf
  refine e_putI fl_X4_68 dX4_clear_76 (okX2_o (okX4_order hp_)) fn_2_1 (h2 := hp s12) (by rw [es12]; rfl) (pc2 := 79) rfl ?_
  refine e_aload_n dX4_clear_79 0 rfl rfl (pc2 := 80) rfl ?_
  refine e_iconst (x := 0) dX4_clear_80 (by decide) (pc2 := 81) rfl ?_
  obtain ⟨s13, es13, hf⟩ := ltb_s hf
  refine e_putI fl_X4_71 dX4_clear_81 (okX4_o hp_) fn_4_9 (h2 := hp s13) (by rw [es13]; rfl) (pc2 := 84) rfl ?_
  refine e_aload_n dX4_clear_84 0 rfl rfl (pc2 := 85) rfl ?_
  refine e_iconst (x := 0) dX4_clear_85 (by decide) (pc2 := 86) rfl ?_
  obtain ⟨s14, es14, hf⟩ := ltb_s hf
  refine e_putI fl_X4_74 dX4_clear_86 (okX4_o hp_) fn_4_12 (h2 := hp s14) (by rw [es14]; rfl) (pc2 := 89) rfl ?_
  refine e_aload_n dX4_clear_89 0 rfl rfl (pc2 := 90) rfl ?_
  refine e_iconst (x := 0) dX4_clear_90 (by decide) (pc2 := 91) rfl ?_
  obtain ⟨s15, es15, hf⟩ := ltb_s hf
  refine e_putI fl_X4_77 dX4_clear_91 (okX4_o hp_) fn_4_14 (h2 := hp s15) (by rw [es15]; rfl) (pc2 := 94) rfl ?_
  cases hf
  exact e_vret rfl dX4_clear_94
abbrev DDX4_coachOf : Nat := 1
def f_X4_coachOf_l2b (v0 : Nat) (v1 : Int64) (v3 : Int32) (k2 : Int32 → Option Int32) (s : HS) : Option Int32 :=
  (if (s.1 v0 9) ≤ v3 then some (-1) else gd (inb v3 6) ((if (lg_cmp (s.2.1 (Rf v0 10) v3.toNatClampNeg) v1) = 0 then some v3 else ltb (v3 + 1) fun x4 => k2 x4)))
set_option maxRecDepth 20000 in
set_option maxHeartbeats 2000000 in
theorem t_X4_coachOf_l2b (v0 : Nat) (v1 : Int64) (v3 : Int32) (hv0 : okX4 v0 = true) (s : HS) {x : Int32} (k2 : Int32 → Option Int32) (hk2 : ∀ (a3 : Int32), k2 a3 = some x → Ev DDX4_coachOf miX4_coachOf NF (some (.int x)) NF (hp s) 2 NF [(0, .ref v0), (1, .long v1), (3, .int a3)] [] (hp s)) (hf : f_X4_coachOf_l2b v0 v1 v3 k2 s = some x) : Ev DDX4_coachOf miX4_coachOf NF (some (.int x)) NF (hp s) 2 NF [(0, .ref v0), (1, .long v1), (3, .int v3)] [] (hp s) := by
  refine e_iload_n dX4_coachOf_2 2 rfl rfl (pc2 := 3) rfl ?_
  refine e_aload_n dX4_coachOf_3 0 rfl rfl (pc2 := 4) rfl ?_
  refine e_getI fl_X4_71 dX4_coachOf_4 (okX4_o hv0) (by decide) (pc2 := 7) rfl ?_
  refine e_icmp_ge (tgt := 29) dX4_coachOf_7 (by decide) (pc2 := 10) rfl (fun c1 => ?_) (fun c1 => ?_)
  · have hf := if_t c1 hf
    refine e_iconst (x := (-1)) dX4_coachOf_29 (by decide) (pc2 := 30) rfl ?_
    cases hf
    exact e_iret rfl dX4_coachOf_30
  · have hf := if_f c1 hf
    refine e_aload_n dX4_coachOf_10 0 rfl rfl (pc2 := 11) rfl ?_
    refine e_getR (r := Rf v0 10) fl_X4_22 dX4_coachOf_11 (okX4_o hv0) (okX4_R hv0) (isA_ne (okX4_coachName hv0)) (pc2 := 14) rfl ?_
    refine e_iload_n dX4_coachOf_14 2 rfl rfl (pc2 := 15) rfl ?_
    obtain ⟨g2, hf⟩ := gd_some hf
    refine e_lald dX4_coachOf_15 (okX4_coachName hv0) (inb_v g2) (pc2 := 16) rfl ?_
    refine e_lload_n dX4_coachOf_16 1 rfl rfl (pc2 := 17) rfl ?_
    refine e_lcmp dX4_coachOf_17 (pc2 := 18) rfl ?_
    refine e_if_ne (tgt := 23) dX4_coachOf_18 (by decide) (pc2 := 21) rfl (fun c3 => ?_) (fun c3 => ?_)
    · have hf := if_f c3 hf
      obtain ⟨x4, ex4, hf⟩ := ltb_s hf
      refine e_iinc dX4_coachOf_23 2 rfl (c9 := 1) (by decide) ex4.symm (by decide) (ls' := [(0, .ref v0), (1, .long v1), (3, .int x4)]) [1, 2, 0] rfl (pc2 := 26) rfl ?_
      refine e_goto (tgt := 2) dX4_coachOf_26 (by decide) ?_
      exact hk2 x4 hf
    · have hf := if_t c3 hf
      refine e_iload_n dX4_coachOf_21 2 rfl rfl (pc2 := 22) rfl ?_
      cases hf
      exact e_iret rfl dX4_coachOf_22
def f_X4_coachOf_l2 (v0 : Nat) (v1 : Int64) (s : HS) : Nat → Int32 → Option Int32
  | 0, _ => none
  | n + 1, v3 => f_X4_coachOf_l2b v0 v1 v3 (f_X4_coachOf_l2 v0 v1 s n)  s
set_option maxRecDepth 20000 in
set_option maxHeartbeats 2000000 in
theorem t_X4_coachOf_l2 (v0 : Nat) (v1 : Int64) (hv0 : okX4 v0 = true) (s : HS) {x : Int32}  : ∀ (n : Nat) (v3 : Int32), f_X4_coachOf_l2 v0 v1 s n v3 = some x → Ev DDX4_coachOf miX4_coachOf NF (some (.int x)) NF (hp s) 2 NF [(0, .ref v0), (1, .long v1), (3, .int v3)] [] (hp s) := by
  intro n
  induction n with
  | zero =>
    intro v3 hf
    have hf : none = some x := hf
    cases hf
  | succ n ih =>
    intro v3 hf
    exact t_X4_coachOf_l2b v0 v1 v3 hv0 s _ ih  hf
def f_X4_coachOf (p : Nat) (v1 : Int64) (s : HS) : Option Int32 :=
  f_X4_coachOf_l2 p v1 s FU 0
set_option maxRecDepth 20000 in
set_option maxHeartbeats 2000000 in
theorem t_X4_coachOf (p : Nat) (hp_ : okX4 p = true) (v1 : Int64) (s : HS) {x : Int32} (hf : f_X4_coachOf  p v1 s = some x) : Mt DDX4_coachOf miX4_coachOf [.ref p, .long v1] NF (hp s) (some (.int x)) NF (hp s) := by
  refine Mt.of (by decide +kernel) (Nat.le_refl _) (Nat.le_of_ble_eq_true rfl) ?_
  show Ev DDX4_coachOf miX4_coachOf NF (some (.int x)) NF (hp s) 0 NF [(0, .ref p), (1, .long v1)] [] (hp s)
  unfold f_X4_coachOf at hf
  refine e_iconst (x := 0) dX4_coachOf_0 (by decide) (pc2 := 1) rfl ?_
  refine e_istore_n dX4_coachOf_1 rfl (by decide) rfl (ls' := [(0, .ref p), (1, .long v1), (3, .int 0)]) [1, 2, 0] rfl (pc2 := 2) rfl ?_
  refine t_X4_coachOf_l2 p v1 hp_ s FU 0 hf
abbrev DDX4_farOf : Nat := 1
def f_X4_farOf (p : Nat) (v1 : Int32) (v2 : Int32) (s : HS) : Option Int32 :=
  gd (inb v1 6) (gd (inb (s.1 (Rf (Rf p 15) v1.toNatClampNeg) 2) 6) (ltb (s.1 (Rf p 11) (s.1 (Rf (Rf p 15) v1.toNatClampNeg) 2).toNatClampNeg) fun x3 => (if v2 ≤ x3 then some (x3 - v2) else some (v2 - x3))))
set_option maxRecDepth 20000 in
set_option maxHeartbeats 2000000 in
theorem t_X4_farOf (p : Nat) (hp_ : okX4 p = true) (v1 : Int32) (v2 : Int32) (s : HS) {x : Int32} (hf : f_X4_farOf  p v1 v2 s = some x) : Mt DDX4_farOf miX4_farOf [.ref p, .int v1, .int v2] NF (hp s) (some (.int x)) NF (hp s) := by
  refine Mt.of (by decide +kernel) (Nat.le_refl _) (Nat.le_of_ble_eq_true rfl) ?_
  show Ev DDX4_farOf miX4_farOf NF (some (.int x)) NF (hp s) 0 NF [(0, .ref p), (1, .int v1), (2, .int v2)] [] (hp s)
  unfold f_X4_farOf at hf
  refine e_aload_n dX4_farOf_0 0 rfl rfl (pc2 := 1) rfl ?_
  refine e_getR (r := Rf p 11) fl_X4_26 dX4_farOf_1 (okX4_o hp_) (okX4_R hp_) (isA_ne (okX4_yards hp_)) (pc2 := 4) rfl ?_
  refine e_aload_n dX4_farOf_4 0 rfl rfl (pc2 := 5) rfl ?_
  refine e_getR (r := Rf p 15) fl_X4_37 dX4_farOf_5 (okX4_o hp_) (okX4_R hp_) (isA_ne (okX4_buyer hp_)) (pc2 := 8) rfl ?_
  refine e_iload_n dX4_farOf_8 1 rfl rfl (pc2 := 9) rfl ?_
  obtain ⟨g1, hf⟩ := gd_some hf
  refine e_aald (r := Rf (Rf p 15) v1.toNatClampNeg) dX4_farOf_9 (okX4_buyer hp_) (by decide) (inb_v g1) (Rs_na (q := s.2.2) (okX4_buyer hp_) (by decide)) (okX0_ne (okX4_buyer_el hp_ (inb_v g1))) (pc2 := 10) rfl ?_
  refine e_getI fl_X4_85 dX4_farOf_10 (okX0_o (okX4_buyer_el hp_ (inb_v g1))) (by decide) (pc2 := 13) rfl ?_
  obtain ⟨g2, hf⟩ := gd_some hf
  refine e_iald dX4_farOf_13 (okX4_yards hp_) (inb_v g2) (pc2 := 14) rfl ?_
  obtain ⟨x3, ex3, hf⟩ := ltb_s hf
  refine e_istore_n dX4_farOf_14 rfl (by decide) ex3.symm (ls' := [(2, .int v2), (3, .int x3)]) [3, 0] rfl (pc2 := 15) rfl ?_
  refine e_iload_n dX4_farOf_15 1 rfl rfl (pc2 := 16) rfl ?_
  refine e_iload_n dX4_farOf_16 0 rfl rfl (pc2 := 17) rfl ?_
  refine e_icmp_ge (tgt := 26) dX4_farOf_17 (by decide) (pc2 := 20) rfl (fun c4 => ?_) (fun c4 => ?_)
  · have hf := if_t c4 hf
    refine e_iload_n dX4_farOf_26 1 rfl rfl (pc2 := 27) rfl ?_
    refine e_iload_n dX4_farOf_27 0 rfl rfl (pc2 := 28) rfl ?_
    refine e_isub dX4_farOf_28 (pc2 := 29) rfl ?_
    cases hf
    exact e_iret rfl dX4_farOf_29
  · have hf := if_f c4 hf
    refine e_iload_n dX4_farOf_20 0 rfl rfl (pc2 := 21) rfl ?_
    refine e_iload_n dX4_farOf_21 1 rfl rfl (pc2 := 22) rfl ?_
    refine e_isub dX4_farOf_22 (pc2 := 23) rfl ?_
    refine e_goto (tgt := 29) dX4_farOf_23 (by decide) ?_
    cases hf
    exact e_iret rfl dX4_farOf_29
abbrev DDX4_wayOf : Nat := 2
def f_X4_wayOf (p : Nat) (v1 : Int32) (v2 : Int32) (s : HS) : Option Int32 :=
  bnd (f_X4_farOf p v1 v2 s) fun y1 => some ((y1 * (s.1 p 6)) / 10)
set_option maxRecDepth 20000 in
set_option maxHeartbeats 2000000 in
theorem t_X4_wayOf (p : Nat) (hp_ : okX4 p = true) (v1 : Int32) (v2 : Int32) (s : HS) {x : Int32} (hf : f_X4_wayOf  p v1 v2 s = some x) : Mt DDX4_wayOf miX4_wayOf [.ref p, .int v1, .int v2] NF (hp s) (some (.int x)) NF (hp s) := by
  refine Mt.of (by decide +kernel) (Nat.le_refl _) (Nat.le_of_ble_eq_true rfl) ?_
  show Ev DDX4_wayOf miX4_wayOf NF (some (.int x)) NF (hp s) 0 NF [(0, .ref p), (1, .int v1), (2, .int v2)] [] (hp s)
  unfold f_X4_wayOf at hf
  refine e_aload_n dX4_wayOf_0 0 rfl rfl (pc2 := 1) rfl ?_
  refine e_iload_n dX4_wayOf_1 1 rfl rfl (pc2 := 2) rfl ?_
  refine e_iload_n dX4_wayOf_2 2 rfl rfl (pc2 := 3) rfl ?_
  obtain ⟨y1, hy1, hf⟩ := bnd_s hf
  refine e_callVs (t_X4_farOf p hp_ v1 v2 s hy1) dX4_wayOf_3 cv_X4_88 rfl (okX4_o hp_) rc_4 (by decide) (by first | exact Nat.le_of_ble_eq_true rfl | simp [rva_cat, vc_i, vc_r, vc_l, vc_n]) nn0 rfl (pc2 := 6) rfl ?_
  refine e_aload_n dX4_wayOf_6 0 rfl rfl (pc2 := 7) rfl ?_
  refine e_getI fl_X4_65 dX4_wayOf_7 (okX4_o hp_) (by decide) (pc2 := 10) rfl ?_
  refine e_imul dX4_wayOf_10 (pc2 := 11) rfl ?_
  refine e_bipush (x := 10) dX4_wayOf_11 (by decide) (pc2 := 13) rfl ?_
  refine e_idiv dX4_wayOf_13 (by decide) (pc2 := 14) rfl ?_
  cases hf
  exact e_iret rfl dX4_wayOf_14
abbrev DDX4_goesAt : Nat := 1
def f_X4_goesAt (p : Nat) (v1 : Int32) (v2 : Int32) (s : HS) : Int32 :=
  imax 0 (imin v2 ((s.1 p 0) - v1))
set_option maxRecDepth 20000 in
set_option maxHeartbeats 2000000 in
theorem t_X4_goesAt (p : Nat) (hp_ : okX4 p = true) (v1 : Int32) (v2 : Int32) (s : HS) {x : Int32} (hf : f_X4_goesAt  p v1 v2 s = x) : Mt DDX4_goesAt miX4_goesAt [.ref p, .int v1, .int v2] NF (hp s) (some (.int x)) NF (hp s) := by
  refine Mt.of (by decide +kernel) (Nat.le_refl _) (Nat.le_of_ble_eq_true rfl) ?_
  show Ev DDX4_goesAt miX4_goesAt NF (some (.int x)) NF (hp s) 0 NF [(0, .ref p), (1, .int v1), (2, .int v2)] [] (hp s)
  unfold f_X4_goesAt at hf
  refine e_iconst (x := 0) dX4_goesAt_0 (by decide) (pc2 := 1) rfl ?_
  refine e_iload_n dX4_goesAt_1 2 rfl rfl (pc2 := 2) rfl ?_
  refine e_aload_n dX4_goesAt_2 0 rfl rfl (pc2 := 3) rfl ?_
  refine e_getI fl_X4_46 dX4_goesAt_3 (okX4_o hp_) (by decide) (pc2 := 6) rfl ?_
  refine e_iload_n dX4_goesAt_6 1 rfl rfl (pc2 := 7) rfl ?_
  refine e_isub dX4_goesAt_7 (pc2 := 8) rfl ?_
  refine e_mmin dX4_goesAt_8 mm_X4_92 (by decide) nn0 (by first | exact Nat.le_of_ble_eq_true rfl | simp [rva_cat, vc_i, vc_r, vc_l, vc_n]) (pc2 := 11) rfl ?_
  refine e_mmax dX4_goesAt_11 mm_X4_97 (by decide) nn0 (by first | exact Nat.le_of_ble_eq_true rfl | simp [rva_cat, vc_i, vc_r, vc_l, vc_n]) (pc2 := 14) rfl ?_
  cases hf
  exact e_iret rfl dX4_goesAt_14
abbrev DDX4_secsFor : Nat := 1
def f_X4_secsFor_l4b (v0 : Nat) (v1 : Int32) (v2 : Int32) (v3 : Int32) (k4 : Int32 → Int32 → Option Int32) (s : HS) : Option Int32 :=
  gd (inb v1 6) ((if (s.1 (Rf (Rf v0 15) v1.toNatClampNeg) 6) ≤ v3 then some v2 else gd (inb v1 6) (gd (inb v3 3) (gd (inb (s.1 (Rf (Rf (Rf v0 15) v1.toNatClampNeg) 5) v3.toNatClampNeg) 5) (ltb (v2 + (s.1 (Rf (Rf v0 13) (s.1 (Rf (Rf (Rf v0 15) v1.toNatClampNeg) 5) v3.toNatClampNeg).toNatClampNeg) 2)) fun x6 => ltb (v3 + 1) fun x7 => k4 x6 x7)))))
set_option maxRecDepth 20000 in
set_option maxHeartbeats 2000000 in
theorem t_X4_secsFor_l4b (v0 : Nat) (v1 : Int32) (v2 : Int32) (v3 : Int32) (hv0 : okX4 v0 = true) (s : HS) {x : Int32} (k4 : Int32 → Int32 → Option Int32) (hk4 : ∀ (a2 : Int32) (a3 : Int32), k4 a2 a3 = some x → Ev DDX4_secsFor miX4_secsFor NF (some (.int x)) NF (hp s) 4 NF [(0, .ref v0), (1, .int v1), (2, .int a2), (3, .int a3)] [] (hp s)) (hf : f_X4_secsFor_l4b v0 v1 v2 v3 k4 s = some x) : Ev DDX4_secsFor miX4_secsFor NF (some (.int x)) NF (hp s) 4 NF [(0, .ref v0), (1, .int v1), (2, .int v2), (3, .int v3)] [] (hp s) := by
  refine e_iload_n dX4_secsFor_4 3 rfl rfl (pc2 := 5) rfl ?_
  refine e_aload_n dX4_secsFor_5 0 rfl rfl (pc2 := 6) rfl ?_
  refine e_getR (r := Rf v0 15) fl_X4_37 dX4_secsFor_6 (okX4_o hv0) (okX4_R hv0) (isA_ne (okX4_buyer hv0)) (pc2 := 9) rfl ?_
  refine e_iload_n dX4_secsFor_9 1 rfl rfl (pc2 := 10) rfl ?_
  obtain ⟨g1, hf⟩ := gd_some hf
  refine e_aald (r := Rf (Rf v0 15) v1.toNatClampNeg) dX4_secsFor_10 (okX4_buyer hv0) (by decide) (inb_v g1) (Rs_na (q := s.2.2) (okX4_buyer hv0) (by decide)) (okX0_ne (okX4_buyer_el hv0 (inb_v g1))) (pc2 := 11) rfl ?_
  refine e_getI fl_X4_100 dX4_secsFor_11 (okX0_o (okX4_buyer_el hv0 (inb_v g1))) (by decide) (pc2 := 14) rfl ?_
  refine e_icmp_ge (tgt := 45) dX4_secsFor_14 (by decide) (pc2 := 17) rfl (fun c2 => ?_) (fun c2 => ?_)
  · have hf := if_t c2 hf
    refine e_iload_n dX4_secsFor_45 2 rfl rfl (pc2 := 46) rfl ?_
    cases hf
    exact e_iret rfl dX4_secsFor_46
  · have hf := if_f c2 hf
    refine e_iload_n dX4_secsFor_17 2 rfl rfl (pc2 := 18) rfl ?_
    refine e_aload_n dX4_secsFor_18 0 rfl rfl (pc2 := 19) rfl ?_
    refine e_getR (r := Rf v0 13) fl_X4_31 dX4_secsFor_19 (okX4_o hv0) (okX4_R hv0) (isA_ne (okX4_thing hv0)) (pc2 := 22) rfl ?_
    refine e_aload_n dX4_secsFor_22 0 rfl rfl (pc2 := 23) rfl ?_
    refine e_getR (r := Rf v0 15) fl_X4_37 dX4_secsFor_23 (okX4_o hv0) (okX4_R hv0) (isA_ne (okX4_buyer hv0)) (pc2 := 26) rfl ?_
    refine e_iload_n dX4_secsFor_26 1 rfl rfl (pc2 := 27) rfl ?_
    obtain ⟨g3, hf⟩ := gd_some hf
    refine e_aald (r := Rf (Rf v0 15) v1.toNatClampNeg) dX4_secsFor_27 (okX4_buyer hv0) (by decide) (inb_v g3) (Rs_na (q := s.2.2) (okX4_buyer hv0) (by decide)) (okX0_ne (okX4_buyer_el hv0 (inb_v g3))) (pc2 := 28) rfl ?_
    refine e_getR (r := Rf (Rf (Rf v0 15) v1.toNatClampNeg) 5) fl_X4_103 dX4_secsFor_28 (okX0_o (okX4_buyer_el hv0 (inb_v g3))) (okX0_R (okX4_buyer_el hv0 (inb_v g3))) (isA_ne (okX0_wants (okX4_buyer_el hv0 (inb_v g3)))) (pc2 := 31) rfl ?_
    refine e_iload_n dX4_secsFor_31 3 rfl rfl (pc2 := 32) rfl ?_
    obtain ⟨g4, hf⟩ := gd_some hf
    refine e_iald dX4_secsFor_32 (okX0_wants (okX4_buyer_el hv0 (inb_v g3))) (inb_v g4) (pc2 := 33) rfl ?_
    obtain ⟨g5, hf⟩ := gd_some hf
    refine e_aald (r := Rf (Rf v0 13) (s.1 (Rf (Rf (Rf v0 15) v1.toNatClampNeg) 5) v3.toNatClampNeg).toNatClampNeg) dX4_secsFor_33 (okX4_thing hv0) (by decide) (inb_v g5) (Rs_na (q := s.2.2) (okX4_thing hv0) (by decide)) (okX9_ne (okX4_thing_el hv0 (inb_v g5))) (pc2 := 34) rfl ?_
    refine e_getI fl_X4_106 dX4_secsFor_34 (okX9_o (okX4_thing_el hv0 (inb_v g5))) (by decide) (pc2 := 37) rfl ?_
    refine e_iadd dX4_secsFor_37 (pc2 := 38) rfl ?_
    obtain ⟨x6, ex6, hf⟩ := ltb_s hf
    refine e_istore_n dX4_secsFor_38 rfl (by decide) ex6.symm (ls' := [(0, .ref v0), (1, .int v1), (2, .int x6), (3, .int v3)]) [1, 2, 0, 3] rfl (pc2 := 39) rfl ?_
    obtain ⟨x7, ex7, hf⟩ := ltb_s hf
    refine e_iinc dX4_secsFor_39 3 rfl (c9 := 1) (by decide) ex7.symm (by decide) (ls' := [(0, .ref v0), (1, .int v1), (2, .int x6), (3, .int x7)]) [1, 2, 3, 0] rfl (pc2 := 42) rfl ?_
    refine e_goto (tgt := 4) dX4_secsFor_42 (by decide) ?_
    exact hk4 x6 x7 hf
def f_X4_secsFor_l4 (v0 : Nat) (v1 : Int32) (s : HS) : Nat → Int32 → Int32 → Option Int32
  | 0, _, _ => none
  | n + 1, v2, v3 => f_X4_secsFor_l4b v0 v1 v2 v3 (f_X4_secsFor_l4 v0 v1 s n)  s
set_option maxRecDepth 20000 in
set_option maxHeartbeats 2000000 in
theorem t_X4_secsFor_l4 (v0 : Nat) (v1 : Int32) (hv0 : okX4 v0 = true) (s : HS) {x : Int32}  : ∀ (n : Nat) (v2 : Int32) (v3 : Int32), f_X4_secsFor_l4 v0 v1 s n v2 v3 = some x → Ev DDX4_secsFor miX4_secsFor NF (some (.int x)) NF (hp s) 4 NF [(0, .ref v0), (1, .int v1), (2, .int v2), (3, .int v3)] [] (hp s) := by
  intro n
  induction n with
  | zero =>
    intro v2 v3 hf
    have hf : none = some x := hf
    cases hf
  | succ n ih =>
    intro v2 v3 hf
    exact t_X4_secsFor_l4b v0 v1 v2 v3 hv0 s _ ih  hf
def f_X4_secsFor (p : Nat) (v1 : Int32) (s : HS) : Option Int32 :=
  f_X4_secsFor_l4 p v1 s FU 0 0
set_option maxRecDepth 20000 in
set_option maxHeartbeats 2000000 in
theorem t_X4_secsFor (p : Nat) (hp_ : okX4 p = true) (v1 : Int32) (s : HS) {x : Int32} (hf : f_X4_secsFor  p v1 s = some x) : Mt DDX4_secsFor miX4_secsFor [.ref p, .int v1] NF (hp s) (some (.int x)) NF (hp s) := by
  refine Mt.of (by decide +kernel) (Nat.le_refl _) (Nat.le_of_ble_eq_true rfl) ?_
  show Ev DDX4_secsFor miX4_secsFor NF (some (.int x)) NF (hp s) 0 NF [(0, .ref p), (1, .int v1)] [] (hp s)
  unfold f_X4_secsFor at hf
  refine e_iconst (x := 0) dX4_secsFor_0 (by decide) (pc2 := 1) rfl ?_
  refine e_istore_n dX4_secsFor_1 rfl (by decide) rfl (ls' := [(0, .ref p), (1, .int v1), (2, .int 0)]) [1, 2, 0] rfl (pc2 := 2) rfl ?_
  refine e_iconst (x := 0) dX4_secsFor_2 (by decide) (pc2 := 3) rfl ?_
  refine e_istore_n dX4_secsFor_3 rfl (by decide) rfl (ls' := [(0, .ref p), (1, .int v1), (2, .int 0), (3, .int 0)]) [1, 2, 3, 0] rfl (pc2 := 4) rfl ?_
  refine t_X4_secsFor_l4 p v1 hp_ s FU 0 0 hf
abbrev DDX4_priceFor : Nat := 1
def f_X4_priceFor_l4b (v0 : Nat) (v1 : Int32) (v2 : Int32) (v3 : Int32) (k4 : Int32 → Int32 → Option Int32) (s : HS) : Option Int32 :=
  gd (inb v1 6) ((if (s.1 (Rf (Rf v0 15) v1.toNatClampNeg) 6) ≤ v3 then some v2 else gd (inb v1 6) (gd (inb v3 3) (gd (inb (s.1 (Rf (Rf (Rf v0 15) v1.toNatClampNeg) 5) v3.toNatClampNeg) 5) (ltb (v2 + (s.1 (Rf (Rf v0 13) (s.1 (Rf (Rf (Rf v0 15) v1.toNatClampNeg) 5) v3.toNatClampNeg).toNatClampNeg) 3)) fun x6 => ltb (v3 + 1) fun x7 => k4 x6 x7)))))
set_option maxRecDepth 20000 in
set_option maxHeartbeats 2000000 in
theorem t_X4_priceFor_l4b (v0 : Nat) (v1 : Int32) (v2 : Int32) (v3 : Int32) (hv0 : okX4 v0 = true) (s : HS) {x : Int32} (k4 : Int32 → Int32 → Option Int32) (hk4 : ∀ (a2 : Int32) (a3 : Int32), k4 a2 a3 = some x → Ev DDX4_priceFor miX4_priceFor NF (some (.int x)) NF (hp s) 4 NF [(0, .ref v0), (1, .int v1), (2, .int a2), (3, .int a3)] [] (hp s)) (hf : f_X4_priceFor_l4b v0 v1 v2 v3 k4 s = some x) : Ev DDX4_priceFor miX4_priceFor NF (some (.int x)) NF (hp s) 4 NF [(0, .ref v0), (1, .int v1), (2, .int v2), (3, .int v3)] [] (hp s) := by
  refine e_iload_n dX4_priceFor_4 3 rfl rfl (pc2 := 5) rfl ?_
  refine e_aload_n dX4_priceFor_5 0 rfl rfl (pc2 := 6) rfl ?_
  refine e_getR (r := Rf v0 15) fl_X4_37 dX4_priceFor_6 (okX4_o hv0) (okX4_R hv0) (isA_ne (okX4_buyer hv0)) (pc2 := 9) rfl ?_
  refine e_iload_n dX4_priceFor_9 1 rfl rfl (pc2 := 10) rfl ?_
  obtain ⟨g1, hf⟩ := gd_some hf
  refine e_aald (r := Rf (Rf v0 15) v1.toNatClampNeg) dX4_priceFor_10 (okX4_buyer hv0) (by decide) (inb_v g1) (Rs_na (q := s.2.2) (okX4_buyer hv0) (by decide)) (okX0_ne (okX4_buyer_el hv0 (inb_v g1))) (pc2 := 11) rfl ?_
  refine e_getI fl_X4_100 dX4_priceFor_11 (okX0_o (okX4_buyer_el hv0 (inb_v g1))) (by decide) (pc2 := 14) rfl ?_
  refine e_icmp_ge (tgt := 45) dX4_priceFor_14 (by decide) (pc2 := 17) rfl (fun c2 => ?_) (fun c2 => ?_)
  · have hf := if_t c2 hf
    refine e_iload_n dX4_priceFor_45 2 rfl rfl (pc2 := 46) rfl ?_
    cases hf
    exact e_iret rfl dX4_priceFor_46
  · have hf := if_f c2 hf
    refine e_iload_n dX4_priceFor_17 2 rfl rfl (pc2 := 18) rfl ?_
    refine e_aload_n dX4_priceFor_18 0 rfl rfl (pc2 := 19) rfl ?_
    refine e_getR (r := Rf v0 13) fl_X4_31 dX4_priceFor_19 (okX4_o hv0) (okX4_R hv0) (isA_ne (okX4_thing hv0)) (pc2 := 22) rfl ?_
    refine e_aload_n dX4_priceFor_22 0 rfl rfl (pc2 := 23) rfl ?_
    refine e_getR (r := Rf v0 15) fl_X4_37 dX4_priceFor_23 (okX4_o hv0) (okX4_R hv0) (isA_ne (okX4_buyer hv0)) (pc2 := 26) rfl ?_
    refine e_iload_n dX4_priceFor_26 1 rfl rfl (pc2 := 27) rfl ?_
    obtain ⟨g3, hf⟩ := gd_some hf
    refine e_aald (r := Rf (Rf v0 15) v1.toNatClampNeg) dX4_priceFor_27 (okX4_buyer hv0) (by decide) (inb_v g3) (Rs_na (q := s.2.2) (okX4_buyer hv0) (by decide)) (okX0_ne (okX4_buyer_el hv0 (inb_v g3))) (pc2 := 28) rfl ?_
    refine e_getR (r := Rf (Rf (Rf v0 15) v1.toNatClampNeg) 5) fl_X4_103 dX4_priceFor_28 (okX0_o (okX4_buyer_el hv0 (inb_v g3))) (okX0_R (okX4_buyer_el hv0 (inb_v g3))) (isA_ne (okX0_wants (okX4_buyer_el hv0 (inb_v g3)))) (pc2 := 31) rfl ?_
    refine e_iload_n dX4_priceFor_31 3 rfl rfl (pc2 := 32) rfl ?_
    obtain ⟨g4, hf⟩ := gd_some hf
    refine e_iald dX4_priceFor_32 (okX0_wants (okX4_buyer_el hv0 (inb_v g3))) (inb_v g4) (pc2 := 33) rfl ?_
    obtain ⟨g5, hf⟩ := gd_some hf
    refine e_aald (r := Rf (Rf v0 13) (s.1 (Rf (Rf (Rf v0 15) v1.toNatClampNeg) 5) v3.toNatClampNeg).toNatClampNeg) dX4_priceFor_33 (okX4_thing hv0) (by decide) (inb_v g5) (Rs_na (q := s.2.2) (okX4_thing hv0) (by decide)) (okX9_ne (okX4_thing_el hv0 (inb_v g5))) (pc2 := 34) rfl ?_
    refine e_getI fl_X4_109 dX4_priceFor_34 (okX9_o (okX4_thing_el hv0 (inb_v g5))) (by decide) (pc2 := 37) rfl ?_
    refine e_iadd dX4_priceFor_37 (pc2 := 38) rfl ?_
    obtain ⟨x6, ex6, hf⟩ := ltb_s hf
    refine e_istore_n dX4_priceFor_38 rfl (by decide) ex6.symm (ls' := [(0, .ref v0), (1, .int v1), (2, .int x6), (3, .int v3)]) [1, 2, 0, 3] rfl (pc2 := 39) rfl ?_
    obtain ⟨x7, ex7, hf⟩ := ltb_s hf
    refine e_iinc dX4_priceFor_39 3 rfl (c9 := 1) (by decide) ex7.symm (by decide) (ls' := [(0, .ref v0), (1, .int v1), (2, .int x6), (3, .int x7)]) [1, 2, 3, 0] rfl (pc2 := 42) rfl ?_
    refine e_goto (tgt := 4) dX4_priceFor_42 (by decide) ?_
    exact hk4 x6 x7 hf
def f_X4_priceFor_l4 (v0 : Nat) (v1 : Int32) (s : HS) : Nat → Int32 → Int32 → Option Int32
  | 0, _, _ => none
  | n + 1, v2, v3 => f_X4_priceFor_l4b v0 v1 v2 v3 (f_X4_priceFor_l4 v0 v1 s n)  s
set_option maxRecDepth 20000 in
set_option maxHeartbeats 2000000 in
theorem t_X4_priceFor_l4 (v0 : Nat) (v1 : Int32) (hv0 : okX4 v0 = true) (s : HS) {x : Int32}  : ∀ (n : Nat) (v2 : Int32) (v3 : Int32), f_X4_priceFor_l4 v0 v1 s n v2 v3 = some x → Ev DDX4_priceFor miX4_priceFor NF (some (.int x)) NF (hp s) 4 NF [(0, .ref v0), (1, .int v1), (2, .int v2), (3, .int v3)] [] (hp s) := by
  intro n
  induction n with
  | zero =>
    intro v2 v3 hf
    have hf : none = some x := hf
    cases hf
  | succ n ih =>
    intro v2 v3 hf
    exact t_X4_priceFor_l4b v0 v1 v2 v3 hv0 s _ ih  hf
def f_X4_priceFor (p : Nat) (v1 : Int32) (s : HS) : Option Int32 :=
  f_X4_priceFor_l4 p v1 s FU 0 0
set_option maxRecDepth 20000 in
set_option maxHeartbeats 2000000 in
theorem t_X4_priceFor (p : Nat) (hp_ : okX4 p = true) (v1 : Int32) (s : HS) {x : Int32} (hf : f_X4_priceFor  p v1 s = some x) : Mt DDX4_priceFor miX4_priceFor [.ref p, .int v1] NF (hp s) (some (.int x)) NF (hp s) := by
  refine Mt.of (by decide +kernel) (Nat.le_refl _) (Nat.le_of_ble_eq_true rfl) ?_
  show Ev DDX4_priceFor miX4_priceFor NF (some (.int x)) NF (hp s) 0 NF [(0, .ref p), (1, .int v1)] [] (hp s)
  unfold f_X4_priceFor at hf
  refine e_iconst (x := 0) dX4_priceFor_0 (by decide) (pc2 := 1) rfl ?_
  refine e_istore_n dX4_priceFor_1 rfl (by decide) rfl (ls' := [(0, .ref p), (1, .int v1), (2, .int 0)]) [1, 2, 0] rfl (pc2 := 2) rfl ?_
  refine e_iconst (x := 0) dX4_priceFor_2 (by decide) (pc2 := 3) rfl ?_
  refine e_istore_n dX4_priceFor_3 rfl (by decide) rfl (ls' := [(0, .ref p), (1, .int v1), (2, .int 0), (3, .int 0)]) [1, 2, 3, 0] rfl (pc2 := 4) rfl ?_
  refine t_X4_priceFor_l4 p v1 hp_ s FU 0 0 hf
abbrev DDX8_take : Nat := 6
def f_X8_take (v1 : Nat) (s : HS) : Option HS :=
  gd (wob (s.2.2.2.2.2.2)) ((if (s.2.2.2.2.2.2) = v1 then bnd (f_X8_step s) fun s6 => some s6 else bnd (f_X8_fail 1 s) fun s4 => some s4))
set_option maxRecDepth 20000 in
set_option maxHeartbeats 2000000 in
theorem t_X8_take (v1 : Nat) (hv1 : wob v1 = true) (s : HS) {t : HS} (hf : f_X8_take  v1 s = some t) : Mt DDX8_take miX8_take [.ref 36, rva v1] NF (hp s) none NF (hp t) := by
  refine Mt.of (by decide +kernel) (Nat.le_refl _) (by simp [lg_sl, rva_cat, vc_i, vc_r, vc_l, vc_n]) ?_
  rw [show lv_args 0 [.ref 36, rva v1] = [(0, .ref 36), (1, rva v1)] by simp [lv_args, rva_cat, vc_i, vc_r, vc_l, vc_n]]
  show Ev DDX8_take miX8_take NF none NF (hp t) 0 NF [(0, .ref 36), (1, rva v1)] [] (hp s)
  unfold f_X8_take at hf
  refine e_aload_n dX8_take_0 0 rfl rfl (pc2 := 1) rfl ?_
  obtain ⟨g1, hf⟩ := gd_some hf
  refine e_getQ (w := s.2.2.2.2.2.2) fl_X8_36 dX8_take_1 so_36 rfl (pc2 := 4) rfl ?_
  refine e_aload_nQ (w := v1) dX8_take_4 1 rfl rfl (pc2 := 5) rfl ?_
  refine e_acmp_ne (tgt := 15) dX8_take_5 (by decide) (w1 := s.2.2.2.2.2.2) (w2 := v1) g1 hv1 (pc2 := 8) rfl (fun c2 => ?_) (fun c2 => ?_)
  · have hf := if_f c2 hf
    refine e_aload_n dX8_take_15 0 rfl rfl (pc2 := 16) rfl ?_
    refine e_iconst (x := 1) dX8_take_16 (by decide) (pc2 := 17) rfl ?_
    obtain ⟨s4, hy3, hf⟩ := bnd_s hf
    refine e_callVn (t_X8_fail 1 s hy3) dX8_take_17 cv_X8_77 rfl so_36 rc_8 (by decide) (by first | exact Nat.le_of_ble_eq_true rfl | simp [rva_cat, vc_i, vc_r, vc_l, vc_n]) nn0 rfl (pc2 := 20) rfl ?_
    cases hf
    exact e_vret rfl dX8_take_20
  · have hf := if_t c2 hf
    refine e_aload_n dX8_take_8 0 rfl rfl (pc2 := 9) rfl ?_
    obtain ⟨s6, hy5, hf⟩ := bnd_s hf
    refine e_callVn (t_X8_step  s hy5) dX8_take_9 cv_X8_27 rfl so_36 rc_8 (by decide) (by first | exact Nat.le_of_ble_eq_true rfl | simp [rva_cat, vc_i, vc_r, vc_l, vc_n]) nn0 rfl (pc2 := 12) rfl ?_
    refine e_goto (tgt := 20) dX8_take_12 (by decide) ?_
    cases hf
    exact e_vret rfl dX8_take_20
