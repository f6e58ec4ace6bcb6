abbrev DDX1_whatOf : Nat := 1
def f_X1_whatOf (v0 : Nat) (s : HS) : Int32 :=
  (if v0 = 1020 then 3 else (if v0 = 1021 then 3 else (if v0 = 1001 then 0 else (if v0 = 1022 then 1 else (if v0 = 1013 then 2 else (if v0 = 1007 then 4 else (if v0 = 1023 then 5 else (-1))))))))
set_option maxRecDepth 20000 in
set_option maxHeartbeats 2000000 in
theorem t_X1_whatOf (v0 : Nat) (hv0 : wob v0 = true) (s : HS) {x : Int32} (hf : f_X1_whatOf v0 s = x) : Mt DDX1_whatOf miX1_whatOf [rva v0] NF (hp s) (some (.int x)) NF (hp s) := by
  refine Mt.of (by decide +kernel) (Nat.le_refl _) (by simp [lg_sl, rva_cat, vc_i, vc_r, vc_l, vc_n]) ?_
  rw [show lv_args 0 [rva v0] = [(0, rva v0)] by simp [lv_args, rva_cat, vc_i, vc_r, vc_l, vc_n]]
  show Ev DDX1_whatOf miX1_whatOf NF (some (.int x)) NF (hp s) 0 NF [(0, rva v0)] [] (hp s)
  unfold f_X1_whatOf at hf
  refine e_aload_nQ (w := v0) dX1_whatOf_0 0 rfl rfl (pc2 := 1) rfl ?_
  refine e_getsE (i := 20) (by decide) dX1_whatOf_1 gs_X1_48 (pc2 := 4) rfl ?_
  refine e_acmp_eq (tgt := 14) dX1_whatOf_4 (by decide) (w1 := v0) (w2 := 1020) hv0 (by decide) (pc2 := 7) rfl (fun c1 => ?_) (fun c1 => ?_)
  · have hf := if_t c1 hf
    refine e_iconst (x := 3) dX1_whatOf_14 (by decide) (pc2 := 15) rfl ?_
    cases hf
    exact e_iret rfl dX1_whatOf_15
  · have hf := if_f c1 hf
    refine e_aload_nQ (w := v0) dX1_whatOf_7 0 rfl rfl (pc2 := 8) rfl ?_
    refine e_getsE (i := 21) (by decide) dX1_whatOf_8 gs_X1_89 (pc2 := 11) rfl ?_
    refine e_acmp_ne (tgt := 16) dX1_whatOf_11 (by decide) (w1 := v0) (w2 := 1021) hv0 (by decide) (pc2 := 14) rfl (fun c2 => ?_) (fun c2 => ?_)
    · have hf := if_f c2 hf
      refine e_aload_nQ (w := v0) dX1_whatOf_16 0 rfl rfl (pc2 := 17) rfl ?_
      refine e_getsE (i := 1) (by decide) dX1_whatOf_17 gs_X1_92 (pc2 := 20) rfl ?_
      refine e_acmp_ne (tgt := 27) dX1_whatOf_20 (by decide) (w1 := v0) (w2 := 1001) hv0 (by decide) (pc2 := 23) rfl (fun c3 => ?_) (fun c3 => ?_)
      · have hf := if_f c3 hf
        refine e_aload_nQ (w := v0) dX1_whatOf_27 0 rfl rfl (pc2 := 28) rfl ?_
        refine e_getsE (i := 22) (by decide) dX1_whatOf_28 gs_X1_95 (pc2 := 31) rfl ?_
        refine e_acmp_ne (tgt := 38) dX1_whatOf_31 (by decide) (w1 := v0) (w2 := 1022) hv0 (by decide) (pc2 := 34) rfl (fun c4 => ?_) (fun c4 => ?_)
        · have hf := if_f c4 hf
          refine e_aload_nQ (w := v0) dX1_whatOf_38 0 rfl rfl (pc2 := 39) rfl ?_
          refine e_getsE (i := 13) (by decide) dX1_whatOf_39 gs_X1_98 (pc2 := 42) rfl ?_
          refine e_acmp_ne (tgt := 49) dX1_whatOf_42 (by decide) (w1 := v0) (w2 := 1013) hv0 (by decide) (pc2 := 45) rfl (fun c5 => ?_) (fun c5 => ?_)
          · have hf := if_f c5 hf
            refine e_aload_nQ (w := v0) dX1_whatOf_49 0 rfl rfl (pc2 := 50) rfl ?_
            refine e_getsE (i := 7) (by decide) dX1_whatOf_50 gs_X1_101 (pc2 := 53) rfl ?_
            refine e_acmp_ne (tgt := 60) dX1_whatOf_53 (by decide) (w1 := v0) (w2 := 1007) hv0 (by decide) (pc2 := 56) rfl (fun c6 => ?_) (fun c6 => ?_)
            · have hf := if_f c6 hf
              refine e_aload_nQ (w := v0) dX1_whatOf_60 0 rfl rfl (pc2 := 61) rfl ?_
              refine e_getsE (i := 23) (by decide) dX1_whatOf_61 gs_X1_104 (pc2 := 64) rfl ?_
              refine e_acmp_ne (tgt := 71) dX1_whatOf_64 (by decide) (w1 := v0) (w2 := 1023) hv0 (by decide) (pc2 := 67) rfl (fun c7 => ?_) (fun c7 => ?_)
              · have hf := if_f c7 hf
                refine e_iconst (x := (-1)) dX1_whatOf_71 (by decide) (pc2 := 72) rfl ?_
                cases hf
                exact e_iret rfl dX1_whatOf_72
              · have hf := if_t c7 hf
                refine e_iconst (x := 5) dX1_whatOf_67 (by decide) (pc2 := 68) rfl ?_
                refine e_goto (tgt := 72) dX1_whatOf_68 (by decide) ?_
                cases hf
                exact e_iret rfl dX1_whatOf_72
            · have hf := if_t c6 hf
              refine e_iconst (x := 4) dX1_whatOf_56 (by decide) (pc2 := 57) rfl ?_
              refine e_goto (tgt := 72) dX1_whatOf_57 (by decide) ?_
              cases hf
              exact e_iret rfl dX1_whatOf_72
          · have hf := if_t c5 hf
            refine e_iconst (x := 2) dX1_whatOf_45 (by decide) (pc2 := 46) rfl ?_
            refine e_goto (tgt := 72) dX1_whatOf_46 (by decide) ?_
            cases hf
            exact e_iret rfl dX1_whatOf_72
        · have hf := if_t c4 hf
          refine e_iconst (x := 1) dX1_whatOf_34 (by decide) (pc2 := 35) rfl ?_
          refine e_goto (tgt := 72) dX1_whatOf_35 (by decide) ?_
          cases hf
          exact e_iret rfl dX1_whatOf_72
      · have hf := if_t c3 hf
        refine e_iconst (x := 0) dX1_whatOf_23 (by decide) (pc2 := 24) rfl ?_
        refine e_goto (tgt := 72) dX1_whatOf_24 (by decide) ?_
        cases hf
        exact e_iret rfl dX1_whatOf_72
    · have hf := if_t c2 hf
      refine e_iconst (x := 3) dX1_whatOf_14 (by decide) (pc2 := 15) rfl ?_
      cases hf
      exact e_iret rfl dX1_whatOf_15
abbrev DDX1_keepLine : Nat := 1
def f_X1_keepLine (v1 : Int32) (v2 : Int32) (v3 : Int32) (s : HS) : Option HS :=
  ltb ((s.1 71 2) * 3) fun x1 => gd (inb x1 120) (ltb (sI s 72 (x1.toNatClampNeg) v1) fun s2 => gd (inb (x1 + 1) 120) (ltb (sI s2 72 ((x1 + 1).toNatClampNeg) v2) fun s4 => gd (inb (x1 + 2) 120) (ltb (sI s4 72 ((x1 + 2).toNatClampNeg) v3) fun s6 => ltb (sI s6 71 2 ((s6.1 71 2) + 1)) fun s8 => some s8)))
set_option maxRecDepth 20000 in
set_option maxHeartbeats 2000000 in
theorem t_X1_keepLine (v1 : Int32) (v2 : Int32) (v3 : Int32) (s : HS) {t : HS} (hf : f_X1_keepLine v1 v2 v3 s = some t) : Mt DDX1_keepLine miX1_keepLine [.ref 71, .int v1, .int v2, .int v3] NF (hp s) none NF (hp t) := by
  refine Mt.of (by decide +kernel) (Nat.le_refl _) (Nat.le_of_ble_eq_true rfl) ?_
  show Ev DDX1_keepLine miX1_keepLine NF none NF (hp t) 0 NF [(0, .ref 71), (1, .int v1), (2, .int v2), (3, .int v3)] [] (hp s)
  unfold f_X1_keepLine at hf
  refine e_aload_n dX1_keepLine_0 0 rfl rfl (pc2 := 1) rfl ?_
  refine e_getI fl_X1_19 dX1_keepLine_1 so_71 (by decide) (pc2 := 4) rfl ?_
  refine e_iconst (x := 3) dX1_keepLine_4 (by decide) (pc2 := 5) rfl ?_
  refine e_imul dX1_keepLine_5 (pc2 := 6) rfl ?_
  obtain ⟨x1, ex1, hf⟩ := ltb_s hf
  refine e_istore dX1_keepLine_6 (by decide) ex1.symm (ls' := [(0, .ref 71), (1, .int v1), (2, .int v2), (3, .int v3), (4, .int x1)]) [1, 2, 3, 4, 0] rfl (pc2 := 8) rfl ?_
  refine e_aload_n dX1_keepLine_8 0 rfl rfl (pc2 := 9) rfl ?_
  refine e_getR (r := 72) fl_X1_9 dX1_keepLine_9 so_71 (rs_71_1 s.2.2) (by decide) (pc2 := 12) rfl ?_
  refine e_iload dX1_keepLine_12 4 rfl (pc2 := 14) rfl ?_
  refine e_iload_n dX1_keepLine_14 1 rfl rfl (pc2 := 15) rfl ?_
  obtain ⟨g3, hf⟩ := gd_some hf
  obtain ⟨s2, es2, hf⟩ := ltb_s hf
  refine e_iast dX1_keepLine_15 sa_72 (inb_v g3) (h2 := hp s2) (by rw [es2]; rfl) (pc2 := 16) rfl ?_
  refine e_aload_n dX1_keepLine_16 0 rfl rfl (pc2 := 17) rfl ?_
  refine e_getR (r := 72) fl_X1_9 dX1_keepLine_17 so_71 (rs_71_1 s2.2.2) (by decide) (pc2 := 20) rfl ?_
  refine e_iload dX1_keepLine_20 4 rfl (pc2 := 22) rfl ?_
  refine e_iconst (x := 1) dX1_keepLine_22 (by decide) (pc2 := 23) rfl ?_
  refine e_iadd dX1_keepLine_23 (pc2 := 24) rfl ?_
  refine e_iload_n dX1_keepLine_24 2 rfl rfl (pc2 := 25) rfl ?_
  obtain ⟨g5, hf⟩ := gd_some hf
  obtain ⟨s4, es4, hf⟩ := ltb_s hf
  refine e_iast dX1_keepLine_25 sa_72 (inb_v g5) (h2 := hp s4) (by rw [es4]; rfl) (pc2 := 26) rfl ?_
  refine e_aload_n dX1_keepLine_26 0 rfl rfl (pc2 := 27) rfl ?_
  refine e_getR (r := 72) fl_X1_9 dX1_keepLine_27 so_71 (rs_71_1 s4.2.2) (by decide) (pc2 := 30) rfl ?_
  refine e_iload dX1_keepLine_30 4 rfl (pc2 := 32) rfl ?_
  refine e_iconst (x := 2) dX1_keepLine_32 (by decide) (pc2 := 33) rfl ?_
  refine e_iadd dX1_keepLine_33 (pc2 := 34) rfl ?_
  refine e_iload_n dX1_keepLine_34 3 rfl rfl (pc2 := 35) rfl ?_
  obtain ⟨g7, hf⟩ := gd_some hf
  obtain ⟨s6, es6, hf⟩ := ltb_s hf
  refine e_iast dX1_keepLine_35 sa_72 (inb_v g7) (h2 := hp s6) (by rw [es6]; rfl) (pc2 := 36) rfl ?_
  refine e_aload_n dX1_keepLine_36 0 rfl rfl (pc2 := 37) rfl ?_
  refine e_dup dX1_keepLine_37 rfl (pc2 := 38) rfl ?_
  refine e_getI fl_X1_19 dX1_keepLine_38 so_71 (by decide) (pc2 := 41) rfl ?_
  refine e_iconst (x := 1) dX1_keepLine_41 (by decide) (pc2 := 42) rfl ?_
  refine e_iadd dX1_keepLine_42 (pc2 := 43) rfl ?_
  obtain ⟨s8, es8, hf⟩ := ltb_s hf
  refine e_putI fl_X1_19 dX1_keepLine_43 so_71 fn_1_2 (h2 := hp s8) (by rw [es8]; rfl) (pc2 := 46) rfl ?_
  cases hf
  exact e_vret rfl dX1_keepLine_46
abbrev DDX2_add : Nat := 1
def f_X2_add (p : Nat) (v1 : Int32) (s : HS) : Option HS :=
  (if 1000 ≤ (s.1 p 1) then some s else gd (inb (s.1 p 1) 1000) (ltb (sI s (Rf p 0) ((s.1 p 1).toNatClampNeg) v1) fun s2 => ltb (sI s2 p 1 ((s2.1 p 1) + 1)) fun s4 => some s4))
set_option maxRecDepth 20000 in
set_option maxHeartbeats 2000000 in
theorem t_X2_add (p : Nat) (hp_ : okX2 p = true) (v1 : Int32) (s : HS) {t : HS} (hf : f_X2_add p v1 s = some t) : Mt DDX2_add miX2_add [.ref p, .int v1] NF (hp s) none NF (hp t) := by
  refine Mt.of (by decide +kernel) (Nat.le_refl _) (Nat.le_of_ble_eq_true rfl) ?_
  show Ev DDX2_add miX2_add NF none NF (hp t) 0 NF [(0, .ref p), (1, .int v1)] [] (hp s)
  unfold f_X2_add at hf
  refine e_aload_n dX2_add_0 0 rfl rfl (pc2 := 1) rfl ?_
  refine e_getI fl_X2_18 dX2_add_1 (okX2_o hp_) (by decide) (pc2 := 4) rfl ?_
  refine e_aload_n dX2_add_4 0 rfl rfl (pc2 := 5) rfl ?_
  refine e_getR (r := Rf p 0) fl_X2_9 dX2_add_5 (okX2_o hp_) (okX2_R hp_) (isA_ne (okX2_code hp_)) (pc2 := 8) rfl ?_
  refine e_alen (x := 1000) dX2_add_8 (okX2_code hp_) (by decide) (by decide) (pc2 := 9) rfl ?_
  refine e_icmp_ge (tgt := 32) dX2_add_9 (by decide) (pc2 := 12) rfl (fun c1 => ?_) (fun c1 => ?_)
  · have hf := if_t c1 hf
    cases hf
    exact e_vret rfl dX2_add_32
  · have hf := if_f c1 hf
    refine e_aload_n dX2_add_12 0 rfl rfl (pc2 := 13) rfl ?_
    refine e_getR (r := Rf p 0) fl_X2_9 dX2_add_13 (okX2_o hp_) (okX2_R hp_) (isA_ne (okX2_code hp_)) (pc2 := 16) rfl ?_
    refine e_aload_n dX2_add_16 0 rfl rfl (pc2 := 17) rfl ?_
    refine e_getI fl_X2_18 dX2_add_17 (okX2_o hp_) (by decide) (pc2 := 20) rfl ?_
    refine e_iload_n dX2_add_20 1 rfl rfl (pc2 := 21) rfl ?_
    obtain ⟨g3, hf⟩ := gd_some hf
    obtain ⟨s2, es2, hf⟩ := ltb_s hf
    refine e_iast dX2_add_21 (okX2_code hp_) (inb_v g3) (h2 := hp s2) (by rw [es2]; rfl) (pc2 := 22) rfl ?_
    refine e_aload_n dX2_add_22 0 rfl rfl (pc2 := 23) rfl ?_
    refine e_dup dX2_add_23 rfl (pc2 := 24) rfl ?_
    refine e_getI fl_X2_18 dX2_add_24 (okX2_o hp_) (by decide) (pc2 := 27) rfl ?_
    refine e_iconst (x := 1) dX2_add_27 (by decide) (pc2 := 28) rfl ?_
    refine e_iadd dX2_add_28 (pc2 := 29) rfl ?_
    obtain ⟨s4, es4, hf⟩ := ltb_s hf
    refine e_putI fl_X2_18 dX2_add_29 (okX2_o hp_) fn_2_1 (h2 := hp s4) (by rw [es4]; rfl) (pc2 := 32) rfl ?_
    cases hf
    exact e_vret rfl dX2_add_32
abbrev DDX2_value : Nat := 1
def f_X2_value_j358 (v0 : Nat) (v1 : Int32) (v2 : Int32) (v3 : Int32) (v4 : Int32) (v5 : Int32) (v6 : Int32) (k6 : Int32 → Int32 → HS → Option (Int32 × HS)) (s : HS) : Option (Int32 × HS) :=
  ltb (v6 + 1) fun x7 => k6 v5 x7 s
set_option maxRecDepth 20000 in
set_option maxHeartbeats 2000000 in
theorem t_X2_value_j358 (v0 : Nat) (v1 : Int32) (v2 : Int32) (v3 : Int32) (v4 : Int32) (v5 : Int32) (v6 : Int32) (hv0 : okX2 v0 = true) (s : HS) {x : Int32} {t : HS} (k6 : Int32 → Int32 → HS → Option (Int32 × HS)) (hk6 : ∀ (a5 : Int32) (a6 : Int32) (s : HS), k6 a5 a6 s = some (x, t) → Ev DDX2_value miX2_value NF (some (.int x)) NF (hp t) 6 NF [(0, .ref v0), (1, .int v1), (2, .int v2), (3, .int v3), (4, .int v4), (5, .int a5), (6, .int a6)] [] (hp s)) (hf : f_X2_value_j358 v0 v1 v2 v3 v4 v5 v6 k6 s = some (x, t)) : Ev DDX2_value miX2_value NF (some (.int x)) NF (hp t) 358 NF [(0, .ref v0), (1, .int v1), (2, .int v2), (3, .int v3), (4, .int v4), (5, .int v5), (6, .int v6)] [] (hp s) := by
  obtain ⟨x7, ex7, hf⟩ := ltb_s hf
  refine e_iinc dX2_value_358 6 rfl (c9 := 1) (by decide) ex7.symm (by decide) (ls' := [(0, .ref v0), (1, .int v1), (2, .int v2), (3, .int v3), (4, .int v4), (5, .int v5), (6, .int x7)]) [1, 2, 3, 4, 5, 6, 0] rfl (pc2 := 361) rfl ?_
  refine e_goto (tgt := 6) dX2_value_361 (by decide) ?_
  exact hk6 v5 x7 s hf
def f_X2_value_l6b (v0 : Nat) (v1 : Int32) (v2 : Int32) (v3 : Int32) (v4 : Int32) (v5 : Int32) (v6 : Int32) (k6 : Int32 → Int32 → HS → Option (Int32 × HS)) (k364 : Int32 → HS → Option (Int32 × HS)) (s : HS) : Option (Int32 × HS) :=
  (if (s.1 v0 1) ≤ v6 then k364 v5 s else gd (inb v6 1000) (ltb (s.1 (Rf v0 0) v6.toNatClampNeg) fun x3 => (if x3 < (-4) then (if x3 = (-5) then (if v5 ≤ 0 then f_X2_value_j358 v0 v1 v2 v3 v4 v5 v6 k6 s else gd (inb (v5 - 1) 32) ((if (s.1 (Rf v0 2) (v5 - 1).toNatClampNeg) = 0 then gd (inb (v5 - 1) 32) (ltb (sI s (Rf v0 2) ((v5 - 1).toNatClampNeg) 1) fun s56 => f_X2_value_j358 v0 v1 v2 v3 v4 v5 v6 k6 s56) else gd (inb (v5 - 1) 32) (ltb (sI s (Rf v0 2) ((v5 - 1).toNatClampNeg) 0) fun s54 => f_X2_value_j358 v0 v1 v2 v3 v4 v5 v6 k6 s54)))) else (if v5 ≤ 1 then f_X2_value_j358 v0 v1 v2 v3 v4 v5 v6 k6 s else ltb (v5 + (-1)) fun x8 => gd (inb (x8 - 1) 32) (ltb (s.1 (Rf v0 2) (x8 - 1).toNatClampNeg) fun x10 => gd (inb x8 32) (ltb (s.1 (Rf v0 2) x8.toNatClampNeg) fun x12 => (if x3 = (-11) then gd (inb (x8 - 1) 32) (ltb (sI s (Rf v0 2) ((x8 - 1).toNatClampNeg) (x10 - x12)) fun s14 => f_X2_value_j358 v0 v1 v2 v3 v4 x8 v6 k6 s14) else if x3 = (-10) then gd (inb (x8 - 1) 32) (ltb (sI s (Rf v0 2) ((x8 - 1).toNatClampNeg) (x10 + x12)) fun s17 => f_X2_value_j358 v0 v1 v2 v3 v4 x8 v6 k6 s17) else if x3 = (-9) then (if x10 = x12 then gd (inb (x8 - 1) 32) (ltb (sI s (Rf v0 2) ((x8 - 1).toNatClampNeg) 1) fun s23 => f_X2_value_j358 v0 v1 v2 v3 v4 x8 v6 k6 s23) else gd (inb (x8 - 1) 32) (ltb (sI s (Rf v0 2) ((x8 - 1).toNatClampNeg) 0) fun s21 => f_X2_value_j358 v0 v1 v2 v3 v4 x8 v6 k6 s21)) else if x3 = (-8) then (if x12 ≤ x10 then gd (inb (x8 - 1) 32) (ltb (sI s (Rf v0 2) ((x8 - 1).toNatClampNeg) 0) fun s27 => f_X2_value_j358 v0 v1 v2 v3 v4 x8 v6 k6 s27) else gd (inb (x8 - 1) 32) (ltb (sI s (Rf v0 2) ((x8 - 1).toNatClampNeg) 1) fun s29 => f_X2_value_j358 v0 v1 v2 v3 v4 x8 v6 k6 s29)) else if x3 = (-7) then (if x10 = 0 then (if x12 = 0 then gd (inb (x8 - 1) 32) (ltb (sI s (Rf v0 2) ((x8 - 1).toNatClampNeg) 0) fun s36 => f_X2_value_j358 v0 v1 v2 v3 v4 x8 v6 k6 s36) else gd (inb (x8 - 1) 32) (ltb (sI s (Rf v0 2) ((x8 - 1).toNatClampNeg) 1) fun s38 => f_X2_value_j358 v0 v1 v2 v3 v4 x8 v6 k6 s38)) else gd (inb (x8 - 1) 32) (ltb (sI s (Rf v0 2) ((x8 - 1).toNatClampNeg) 1) fun s33 => f_X2_value_j358 v0 v1 v2 v3 v4 x8 v6 k6 s33)) else if x3 = (-6) then (if x10 = 0 then gd (inb (x8 - 1) 32) (ltb (sI s (Rf v0 2) ((x8 - 1).toNatClampNeg) 0) fun s42 => f_X2_value_j358 v0 v1 v2 v3 v4 x8 v6 k6 s42) else (if x12 = 0 then gd (inb (x8 - 1) 32) (ltb (sI s (Rf v0 2) ((x8 - 1).toNatClampNeg) 0) fun s45 => f_X2_value_j358 v0 v1 v2 v3 v4 x8 v6 k6 s45) else gd (inb (x8 - 1) 32) (ltb (sI s (Rf v0 2) ((x8 - 1).toNatClampNeg) 1) fun s47 => f_X2_value_j358 v0 v1 v2 v3 v4 x8 v6 k6 s47))) else gd (inb (x8 - 1) 32) (ltb (sI s (Rf v0 2) ((x8 - 1).toNatClampNeg) (x10 * x12)) fun s49 => f_X2_value_j358 v0 v1 v2 v3 v4 x8 v6 k6 s49)))))) else (if 32 ≤ v5 then f_X2_value_j358 v0 v1 v2 v3 v4 v5 v6 k6 s else (if x3 < 0 then (if x3 = (-1) then gd (inb v5 32) (ltb (sI s (Rf v0 2) (v5.toNatClampNeg) v1) fun s72 => ltb (v5 + 1) fun x74 => f_X2_value_j358 v0 v1 v2 v3 v4 x74 v6 k6 s72) else (if x3 = (-2) then gd (inb v5 32) (ltb (sI s (Rf v0 2) (v5.toNatClampNeg) v2) fun s69 => ltb (v5 + 1) fun x71 => f_X2_value_j358 v0 v1 v2 v3 v4 x71 v6 k6 s69) else (if x3 = (-3) then gd (inb v5 32) (ltb (sI s (Rf v0 2) (v5.toNatClampNeg) v3) fun s66 => ltb (v5 + 1) fun x68 => f_X2_value_j358 v0 v1 v2 v3 v4 x68 v6 k6 s66) else gd (inb v5 32) (ltb (sI s (Rf v0 2) (v5.toNatClampNeg) v4) fun s63 => ltb (v5 + 1) fun x65 => f_X2_value_j358 v0 v1 v2 v3 v4 x65 v6 k6 s63)))) else gd (inb v5 32) (ltb (sI s (Rf v0 2) (v5.toNatClampNeg) x3) fun s75 => ltb (v5 + 1) fun x77 => f_X2_value_j358 v0 v1 v2 v3 v4 x77 v6 k6 s75))))))
set_option maxRecDepth 20000 in
set_option maxHeartbeats 2000000 in
theorem t_X2_value_l6b (v0 : Nat) (v1 : Int32) (v2 : Int32) (v3 : Int32) (v4 : Int32) (v5 : Int32) (v6 : Int32) (hv0 : okX2 v0 = true) (s : HS) {x : Int32} {t : HS} (k6 : Int32 → Int32 → HS → Option (Int32 × HS)) (hk6 : ∀ (a5 : Int32) (a6 : Int32) (s : HS), k6 a5 a6 s = some (x, t) → Ev DDX2_value miX2_value NF (some (.int x)) NF (hp t) 6 NF [(0, .ref v0), (1, .int v1), (2, .int v2), (3, .int v3), (4, .int v4), (5, .int a5), (6, .int a6)] [] (hp s)) (k364 : Int32 → HS → Option (Int32 × HS)) (hk364 : ∀ (a5 : Int32) (s : HS), k364 a5 s = some (x, t) → Ev DDX2_value miX2_value NF (some (.int x)) NF (hp t) 364 NF [(0, .ref v0), (5, .int a5)] [] (hp s)) (hf : f_X2_value_l6b v0 v1 v2 v3 v4 v5 v6 k6 k364 s = some (x, t)) : Ev DDX2_value miX2_value NF (some (.int x)) NF (hp t) 6 NF [(0, .ref v0), (1, .int v1), (2, .int v2), (3, .int v3), (4, .int v4), (5, .int v5), (6, .int v6)] [] (hp s) := by
  refine e_iload dX2_value_6 6 rfl (pc2 := 8) rfl ?_
  refine e_aload_n dX2_value_8 0 rfl rfl (pc2 := 9) rfl ?_
  refine e_getI fl_X2_18 dX2_value_9 (okX2_o hv0) (by decide) (pc2 := 12) rfl ?_
  refine e_icmp_ge (tgt := 364) dX2_value_12 (by decide) (pc2 := 15) rfl (fun c1 => ?_) (fun c1 => ?_)
  · have hf := if_t c1 hf
    refine ev_sub [0, 5] rfl ?_
    exact hk364 v5 s hf
  · have hf := if_f c1 hf
    refine e_aload_n dX2_value_15 0 rfl rfl (pc2 := 16) rfl ?_
    refine e_getR (r := Rf v0 0) fl_X2_9 dX2_value_16 (okX2_o hv0) (okX2_R hv0) (isA_ne (okX2_code hv0)) (pc2 := 19) rfl ?_
    refine e_iload dX2_value_19 6 rfl (pc2 := 21) rfl ?_
    obtain ⟨g2, hf⟩ := gd_some hf
    refine e_iald dX2_value_21 (okX2_code hv0) (inb_v g2) (pc2 := 22) rfl ?_
    obtain ⟨x3, ex3, hf⟩ := ltb_s hf
    refine e_istore dX2_value_22 (by decide) ex3.symm (ls' := [(0, .ref v0), (1, .int v1), (2, .int v2), (3, .int v3), (4, .int v4), (5, .int v5), (6, .int v6), (7, .int x3)]) [1, 2, 3, 4, 5, 6, 7, 0] rfl (pc2 := 24) rfl ?_
    refine e_iload dX2_value_24 7 rfl (pc2 := 26) rfl ?_
    refine e_bipush (x := (-4)) dX2_value_26 (by decide) (pc2 := 28) rfl ?_
    refine e_icmp_lt (tgt := 98) dX2_value_28 (by decide) (pc2 := 31) rfl (fun c4 => ?_) (fun c4 => ?_)
    · have hf := if_t c4 hf
      refine e_iload dX2_value_98 7 rfl (pc2 := 100) rfl ?_
      refine e_bipush (x := (-5)) dX2_value_100 (by decide) (pc2 := 102) rfl ?_
      refine e_icmp_ne (tgt := 139) dX2_value_102 (by decide) (pc2 := 105) rfl (fun c5 => ?_) (fun c5 => ?_)
      · have hf := if_f c5 hf
        refine e_iload dX2_value_139 5 rfl (pc2 := 141) rfl ?_
        refine e_iconst (x := 1) dX2_value_141 (by decide) (pc2 := 142) rfl ?_
        refine e_icmp_le (tgt := 358) dX2_value_142 (by decide) (pc2 := 145) rfl (fun c6 => ?_) (fun c6 => ?_)
        · have hf := if_t c6 hf
          refine ev_sub [0, 1, 2, 3, 4, 5, 6] rfl ?_
          exact t_X2_value_j358 v0 v1 v2 v3 v4 v5 v6 hv0 s _ hk6 hf
        · have hf := if_f c6 hf
          obtain ⟨x8, ex8, hf⟩ := ltb_s hf
          refine e_iinc dX2_value_145 5 rfl (c9 := (-1)) (by decide) ex8.symm (by decide) (ls' := [(0, .ref v0), (1, .int v1), (2, .int v2), (3, .int v3), (4, .int v4), (5, .int x8), (6, .int v6), (7, .int x3)]) [1, 2, 3, 4, 5, 0, 6, 7] rfl (pc2 := 148) rfl ?_
          refine e_aload_n dX2_value_148 0 rfl rfl (pc2 := 149) rfl ?_
          refine e_getR (r := Rf v0 2) fl_X2_15 dX2_value_149 (okX2_o hv0) (okX2_R hv0) (isA_ne (okX2_pile hv0)) (pc2 := 152) rfl ?_
          refine e_iload dX2_value_152 5 rfl (pc2 := 154) rfl ?_
          refine e_iconst (x := 1) dX2_value_154 (by decide) (pc2 := 155) rfl ?_
          refine e_isub dX2_value_155 (pc2 := 156) rfl ?_
          obtain ⟨g9, hf⟩ := gd_some hf
          refine e_iald dX2_value_156 (okX2_pile hv0) (inb_v g9) (pc2 := 157) rfl ?_
          obtain ⟨x10, ex10, hf⟩ := ltb_s hf
          refine e_istore dX2_value_157 (by decide) ex10.symm (ls' := [(0, .ref v0), (1, .int v1), (2, .int v2), (3, .int v3), (4, .int v4), (5, .int x8), (6, .int v6), (7, .int x3), (8, .int x10)]) [1, 2, 3, 4, 5, 6, 7, 8, 0] rfl (pc2 := 159) rfl ?_
          refine e_aload_n dX2_value_159 0 rfl rfl (pc2 := 160) rfl ?_
          refine e_getR (r := Rf v0 2) fl_X2_15 dX2_value_160 (okX2_o hv0) (okX2_R hv0) (isA_ne (okX2_pile hv0)) (pc2 := 163) rfl ?_
          refine e_iload dX2_value_163 5 rfl (pc2 := 165) rfl ?_
          obtain ⟨g11, hf⟩ := gd_some hf
          refine e_iald dX2_value_165 (okX2_pile hv0) (inb_v g11) (pc2 := 166) rfl ?_
          obtain ⟨x12, ex12, hf⟩ := ltb_s hf
          refine e_istore dX2_value_166 (by decide) ex12.symm (ls' := [(0, .ref v0), (1, .int v1), (2, .int v2), (3, .int v3), (4, .int v4), (5, .int x8), (6, .int v6), (7, .int x3), (8, .int x10), (9, .int x12)]) [1, 2, 3, 4, 5, 6, 7, 8, 9, 0] rfl (pc2 := 168) rfl ?_
          refine e_iload dX2_value_168 7 rfl (pc2 := 170) rfl ?_
          by_cases c13 : x3 = (-11)
          · have hf := if_t c13 hf
            rw [c13]
            refine e_tableIn (tgt := 327) dX2_value_170 (by decide) (by decide) rfl (by decide) ?_
            refine e_aload_n dX2_value_327 0 rfl rfl (pc2 := 328) rfl ?_
            refine e_getR (r := Rf v0 2) fl_X2_15 dX2_value_328 (okX2_o hv0) (okX2_R hv0) (isA_ne (okX2_pile hv0)) (pc2 := 331) rfl ?_
            refine e_iload dX2_value_331 5 rfl (pc2 := 333) rfl ?_
            refine e_iconst (x := 1) dX2_value_333 (by decide) (pc2 := 334) rfl ?_
            refine e_isub dX2_value_334 (pc2 := 335) rfl ?_
            refine e_iload dX2_value_335 8 rfl (pc2 := 337) rfl ?_
            refine e_iload dX2_value_337 9 rfl (pc2 := 339) rfl ?_
            refine e_isub dX2_value_339 (pc2 := 340) rfl ?_
            obtain ⟨g15, hf⟩ := gd_some hf
            obtain ⟨s14, es14, hf⟩ := ltb_s hf
            refine e_iast dX2_value_340 (okX2_pile hv0) (inb_v g15) (h2 := hp s14) (by rw [es14]; rfl) (pc2 := 341) rfl ?_
            refine e_goto (tgt := 358) dX2_value_341 (by decide) ?_
            refine ev_sub [0, 1, 2, 3, 4, 5, 6] rfl ?_
            exact t_X2_value_j358 v0 v1 v2 v3 v4 x8 v6 hv0 s14 _ hk6 hf
          have hf := if_f c13 hf
          by_cases c16 : x3 = (-10)
          · have hf := if_t c16 hf
            rw [c16]
            refine e_tableIn (tgt := 310) dX2_value_170 (by decide) (by decide) rfl (by decide) ?_
            refine e_aload_n dX2_value_310 0 rfl rfl (pc2 := 311) rfl ?_
            refine e_getR (r := Rf v0 2) fl_X2_15 dX2_value_311 (okX2_o hv0) (okX2_R hv0) (isA_ne (okX2_pile hv0)) (pc2 := 314) rfl ?_
            refine e_iload dX2_value_314 5 rfl (pc2 := 316) rfl ?_
            refine e_iconst (x := 1) dX2_value_316 (by decide) (pc2 := 317) rfl ?_
            refine e_isub dX2_value_317 (pc2 := 318) rfl ?_
            refine e_iload dX2_value_318 8 rfl (pc2 := 320) rfl ?_
            refine e_iload dX2_value_320 9 rfl (pc2 := 322) rfl ?_
            refine e_iadd dX2_value_322 (pc2 := 323) rfl ?_
            obtain ⟨g18, hf⟩ := gd_some hf
            obtain ⟨s17, es17, hf⟩ := ltb_s hf
            refine e_iast dX2_value_323 (okX2_pile hv0) (inb_v g18) (h2 := hp s17) (by rw [es17]; rfl) (pc2 := 324) rfl ?_
            refine e_goto (tgt := 358) dX2_value_324 (by decide) ?_
            refine ev_sub [0, 1, 2, 3, 4, 5, 6] rfl ?_
            exact t_X2_value_j358 v0 v1 v2 v3 v4 x8 v6 hv0 s17 _ hk6 hf
          have hf := if_f c16 hf
          by_cases c19 : x3 = (-9)
          · have hf := if_t c19 hf
            rw [c19]
            refine e_tableIn (tgt := 286) dX2_value_170 (by decide) (by decide) rfl (by decide) ?_
            refine e_aload_n dX2_value_286 0 rfl rfl (pc2 := 287) rfl ?_
            refine e_getR (r := Rf v0 2) fl_X2_15 dX2_value_287 (okX2_o hv0) (okX2_R hv0) (isA_ne (okX2_pile hv0)) (pc2 := 290) rfl ?_
            refine e_iload dX2_value_290 5 rfl (pc2 := 292) rfl ?_
            refine e_iconst (x := 1) dX2_value_292 (by decide) (pc2 := 293) rfl ?_
            refine e_isub dX2_value_293 (pc2 := 294) rfl ?_
            refine e_iload dX2_value_294 8 rfl (pc2 := 296) rfl ?_
            refine e_iload dX2_value_296 9 rfl (pc2 := 298) rfl ?_
            refine e_icmp_ne (tgt := 305) dX2_value_298 (by decide) (pc2 := 301) rfl (fun c20 => ?_) (fun c20 => ?_)
            · have hf := if_f c20 hf
              refine e_iconst (x := 0) dX2_value_305 (by decide) (pc2 := 306) rfl ?_
              obtain ⟨g22, hf⟩ := gd_some hf
              obtain ⟨s21, es21, hf⟩ := ltb_s hf
              refine e_iast dX2_value_306 (okX2_pile hv0) (inb_v g22) (h2 := hp s21) (by rw [es21]; rfl) (pc2 := 307) rfl ?_
              refine e_goto (tgt := 358) dX2_value_307 (by decide) ?_
              refine ev_sub [0, 1, 2, 3, 4, 5, 6] rfl ?_
              exact t_X2_value_j358 v0 v1 v2 v3 v4 x8 v6 hv0 s21 _ hk6 hf
            · have hf := if_t c20 hf
              refine e_iconst (x := 1) dX2_value_301 (by decide) (pc2 := 302) rfl ?_
              refine e_goto (tgt := 306) dX2_value_302 (by decide) ?_
              obtain ⟨g24, hf⟩ := gd_some hf
              obtain ⟨s23, es23, hf⟩ := ltb_s hf
              refine e_iast dX2_value_306 (okX2_pile hv0) (inb_v g24) (h2 := hp s23) (by rw [es23]; rfl) (pc2 := 307) rfl ?_
              refine e_goto (tgt := 358) dX2_value_307 (by decide) ?_
              refine ev_sub [0, 1, 2, 3, 4, 5, 6] rfl ?_
              exact t_X2_value_j358 v0 v1 v2 v3 v4 x8 v6 hv0 s23 _ hk6 hf
          have hf := if_f c19 hf
          by_cases c25 : x3 = (-8)
          · have hf := if_t c25 hf
            rw [c25]
            refine e_tableIn (tgt := 262) dX2_value_170 (by decide) (by decide) rfl (by decide) ?_
            refine e_aload_n dX2_value_262 0 rfl rfl (pc2 := 263) rfl ?_
            refine e_getR (r := Rf v0 2) fl_X2_15 dX2_value_263 (okX2_o hv0) (okX2_R hv0) (isA_ne (okX2_pile hv0)) (pc2 := 266) rfl ?_
            refine e_iload dX2_value_266 5 rfl (pc2 := 268) rfl ?_
            refine e_iconst (x := 1) dX2_value_268 (by decide) (pc2 := 269) rfl ?_
            refine e_isub dX2_value_269 (pc2 := 270) rfl ?_
            refine e_iload dX2_value_270 8 rfl (pc2 := 272) rfl ?_
            refine e_iload dX2_value_272 9 rfl (pc2 := 274) rfl ?_
            refine e_icmp_ge (tgt := 281) dX2_value_274 (by decide) (pc2 := 277) rfl (fun c26 => ?_) (fun c26 => ?_)
            · have hf := if_t c26 hf
              refine e_iconst (x := 0) dX2_value_281 (by decide) (pc2 := 282) rfl ?_
              obtain ⟨g28, hf⟩ := gd_some hf
              obtain ⟨s27, es27, hf⟩ := ltb_s hf
              refine e_iast dX2_value_282 (okX2_pile hv0) (inb_v g28) (h2 := hp s27) (by rw [es27]; rfl) (pc2 := 283) rfl ?_
              refine e_goto (tgt := 358) dX2_value_283 (by decide) ?_
              refine ev_sub [0, 1, 2, 3, 4, 5, 6] rfl ?_
              exact t_X2_value_j358 v0 v1 v2 v3 v4 x8 v6 hv0 s27 _ hk6 hf
            · have hf := if_f c26 hf
              refine e_iconst (x := 1) dX2_value_277 (by decide) (pc2 := 278) rfl ?_
              refine e_goto (tgt := 282) dX2_value_278 (by decide) ?_
              obtain ⟨g30, hf⟩ := gd_some hf
              obtain ⟨s29, es29, hf⟩ := ltb_s hf
              refine e_iast dX2_value_282 (okX2_pile hv0) (inb_v g30) (h2 := hp s29) (by rw [es29]; rfl) (pc2 := 283) rfl ?_
              refine e_goto (tgt := 358) dX2_value_283 (by decide) ?_
              refine ev_sub [0, 1, 2, 3, 4, 5, 6] rfl ?_
              exact t_X2_value_j358 v0 v1 v2 v3 v4 x8 v6 hv0 s29 _ hk6 hf
          have hf := if_f c25 hf
          by_cases c31 : x3 = (-7)
          · have hf := if_t c31 hf
            rw [c31]
            refine e_tableIn (tgt := 235) dX2_value_170 (by decide) (by decide) rfl (by decide) ?_
            refine e_aload_n dX2_value_235 0 rfl rfl (pc2 := 236) rfl ?_
            refine e_getR (r := Rf v0 2) fl_X2_15 dX2_value_236 (okX2_o hv0) (okX2_R hv0) (isA_ne (okX2_pile hv0)) (pc2 := 239) rfl ?_
            refine e_iload dX2_value_239 5 rfl (pc2 := 241) rfl ?_
            refine e_iconst (x := 1) dX2_value_241 (by decide) (pc2 := 242) rfl ?_
            refine e_isub dX2_value_242 (pc2 := 243) rfl ?_
            refine e_iload dX2_value_243 8 rfl (pc2 := 245) rfl ?_
            refine e_if_ne (tgt := 253) dX2_value_245 (by decide) (pc2 := 248) rfl (fun c32 => ?_) (fun c32 => ?_)
            · have hf := if_f c32 hf
              refine e_iconst (x := 1) dX2_value_253 (by decide) (pc2 := 254) rfl ?_
              refine e_goto (tgt := 258) dX2_value_254 (by decide) ?_
              obtain ⟨g34, hf⟩ := gd_some hf
              obtain ⟨s33, es33, hf⟩ := ltb_s hf
              refine e_iast dX2_value_258 (okX2_pile hv0) (inb_v g34) (h2 := hp s33) (by rw [es33]; rfl) (pc2 := 259) rfl ?_
              refine e_goto (tgt := 358) dX2_value_259 (by decide) ?_
              refine ev_sub [0, 1, 2, 3, 4, 5, 6] rfl ?_
              exact t_X2_value_j358 v0 v1 v2 v3 v4 x8 v6 hv0 s33 _ hk6 hf
            · have hf := if_t c32 hf
              refine e_iload dX2_value_248 9 rfl (pc2 := 250) rfl ?_
              refine e_if_eq (tgt := 257) dX2_value_250 (by decide) (pc2 := 253) rfl (fun c35 => ?_) (fun c35 => ?_)
              · have hf := if_t c35 hf
                refine e_iconst (x := 0) dX2_value_257 (by decide) (pc2 := 258) rfl ?_
                obtain ⟨g37, hf⟩ := gd_some hf
                obtain ⟨s36, es36, hf⟩ := ltb_s hf
                refine e_iast dX2_value_258 (okX2_pile hv0) (inb_v g37) (h2 := hp s36) (by rw [es36]; rfl) (pc2 := 259) rfl ?_
                refine e_goto (tgt := 358) dX2_value_259 (by decide) ?_
                refine ev_sub [0, 1, 2, 3, 4, 5, 6] rfl ?_
                exact t_X2_value_j358 v0 v1 v2 v3 v4 x8 v6 hv0 s36 _ hk6 hf
              · have hf := if_f c35 hf
                refine e_iconst (x := 1) dX2_value_253 (by decide) (pc2 := 254) rfl ?_
                refine e_goto (tgt := 258) dX2_value_254 (by decide) ?_
                obtain ⟨g39, hf⟩ := gd_some hf
                obtain ⟨s38, es38, hf⟩ := ltb_s hf
                refine e_iast dX2_value_258 (okX2_pile hv0) (inb_v g39) (h2 := hp s38) (by rw [es38]; rfl) (pc2 := 259) rfl ?_
                refine e_goto (tgt := 358) dX2_value_259 (by decide) ?_
                refine ev_sub [0, 1, 2, 3, 4, 5, 6] rfl ?_
                exact t_X2_value_j358 v0 v1 v2 v3 v4 x8 v6 hv0 s38 _ hk6 hf
          have hf := if_f c31 hf
          by_cases c40 : x3 = (-6)
          · have hf := if_t c40 hf
            rw [c40]
            refine e_tableIn (tgt := 208) dX2_value_170 (by decide) (by decide) rfl (by decide) ?_
            refine e_aload_n dX2_value_208 0 rfl rfl (pc2 := 209) rfl ?_
            refine e_getR (r := Rf v0 2) fl_X2_15 dX2_value_209 (okX2_o hv0) (okX2_R hv0) (isA_ne (okX2_pile hv0)) (pc2 := 212) rfl ?_
            refine e_iload dX2_value_212 5 rfl (pc2 := 214) rfl ?_
            refine e_iconst (x := 1) dX2_value_214 (by decide) (pc2 := 215) rfl ?_
            refine e_isub dX2_value_215 (pc2 := 216) rfl ?_
            refine e_iload dX2_value_216 8 rfl (pc2 := 218) rfl ?_
            refine e_if_eq (tgt := 230) dX2_value_218 (by decide) (pc2 := 221) rfl (fun c41 => ?_) (fun c41 => ?_)
            · have hf := if_t c41 hf
              refine e_iconst (x := 0) dX2_value_230 (by decide) (pc2 := 231) rfl ?_
              obtain ⟨g43, hf⟩ := gd_some hf
              obtain ⟨s42, es42, hf⟩ := ltb_s hf
              refine e_iast dX2_value_231 (okX2_pile hv0) (inb_v g43) (h2 := hp s42) (by rw [es42]; rfl) (pc2 := 232) rfl ?_
              refine e_goto (tgt := 358) dX2_value_232 (by decide) ?_
              refine ev_sub [0, 1, 2, 3, 4, 5, 6] rfl ?_
              exact t_X2_value_j358 v0 v1 v2 v3 v4 x8 v6 hv0 s42 _ hk6 hf
            · have hf := if_f c41 hf
              refine e_iload dX2_value_221 9 rfl (pc2 := 223) rfl ?_
              refine e_if_eq (tgt := 230) dX2_value_223 (by decide) (pc2 := 226) rfl (fun c44 => ?_) (fun c44 => ?_)
              · have hf := if_t c44 hf
                refine e_iconst (x := 0) dX2_value_230 (by decide) (pc2 := 231) rfl ?_
                obtain ⟨g46, hf⟩ := gd_some hf
                obtain ⟨s45, es45, hf⟩ := ltb_s hf
                refine e_iast dX2_value_231 (okX2_pile hv0) (inb_v g46) (h2 := hp s45) (by rw [es45]; rfl) (pc2 := 232) rfl ?_
                refine e_goto (tgt := 358) dX2_value_232 (by decide) ?_
                refine ev_sub [0, 1, 2, 3, 4, 5, 6] rfl ?_
                exact t_X2_value_j358 v0 v1 v2 v3 v4 x8 v6 hv0 s45 _ hk6 hf
              · have hf := if_f c44 hf
                refine e_iconst (x := 1) dX2_value_226 (by decide) (pc2 := 227) rfl ?_
                refine e_goto (tgt := 231) dX2_value_227 (by decide) ?_
                obtain ⟨g48, hf⟩ := gd_some hf
                obtain ⟨s47, es47, hf⟩ := ltb_s hf
                refine e_iast dX2_value_231 (okX2_pile hv0) (inb_v g48) (h2 := hp s47) (by rw [es47]; rfl) (pc2 := 232) rfl ?_
                refine e_goto (tgt := 358) dX2_value_232 (by decide) ?_
                refine ev_sub [0, 1, 2, 3, 4, 5, 6] rfl ?_
                exact t_X2_value_j358 v0 v1 v2 v3 v4 x8 v6 hv0 s47 _ hk6 hf
          have hf := if_f c40 hf
          refine e_tableOut (tgt := 344) dX2_value_170 ?_ (by decide) ?_
          · have q0 := lv_neT (a := (-11)) c13 (by decide)
            have q1 := lv_neT (a := (-10)) c16 (by decide)
            have q2 := lv_neT (a := (-9)) c19 (by decide)
            have q3 := lv_neT (a := (-8)) c25 (by decide)
            have q4 := lv_neT (a := (-7)) c31 (by decide)
            have q5 := lv_neT (a := (-6)) c40 (by decide)
            omega
          refine e_aload_n dX2_value_344 0 rfl rfl (pc2 := 345) rfl ?_
          refine e_getR (r := Rf v0 2) fl_X2_15 dX2_value_345 (okX2_o hv0) (okX2_R hv0) (isA_ne (okX2_pile hv0)) (pc2 := 348) rfl ?_
          refine e_iload dX2_value_348 5 rfl (pc2 := 350) rfl ?_
          refine e_iconst (x := 1) dX2_value_350 (by decide) (pc2 := 351) rfl ?_
          refine e_isub dX2_value_351 (pc2 := 352) rfl ?_
          refine e_iload dX2_value_352 8 rfl (pc2 := 354) rfl ?_
          refine e_iload dX2_value_354 9 rfl (pc2 := 356) rfl ?_
          refine e_imul dX2_value_356 (pc2 := 357) rfl ?_
          obtain ⟨g50, hf⟩ := gd_some hf
          obtain ⟨s49, es49, hf⟩ := ltb_s hf
          refine e_iast dX2_value_357 (okX2_pile hv0) (inb_v g50) (h2 := hp s49) (by rw [es49]; rfl) (pc2 := 358) rfl ?_
          refine ev_sub [0, 1, 2, 3, 4, 5, 6] rfl ?_
          exact t_X2_value_j358 v0 v1 v2 v3 v4 x8 v6 hv0 s49 _ hk6 hf
      · have hf := if_t c5 hf
        refine e_iload dX2_value_105 5 rfl (pc2 := 107) rfl ?_
        refine e_if_le (tgt := 358) dX2_value_107 (by decide) (pc2 := 110) rfl (fun c51 => ?_) (fun c51 => ?_)
        · have hf := if_t c51 hf
          refine ev_sub [0, 1, 2, 3, 4, 5, 6] rfl ?_
          exact t_X2_value_j358 v0 v1 v2 v3 v4 v5 v6 hv0 s _ hk6 hf
        · have hf := if_f c51 hf
          refine e_aload_n dX2_value_110 0 rfl rfl (pc2 := 111) rfl ?_
          refine e_getR (r := Rf v0 2) fl_X2_15 dX2_value_111 (okX2_o hv0) (okX2_R hv0) (isA_ne (okX2_pile hv0)) (pc2 := 114) rfl ?_
          refine e_iload dX2_value_114 5 rfl (pc2 := 116) rfl ?_
          refine e_iconst (x := 1) dX2_value_116 (by decide) (pc2 := 117) rfl ?_
          refine e_isub dX2_value_117 (pc2 := 118) rfl ?_
          refine e_aload_n dX2_value_118 0 rfl rfl (pc2 := 119) rfl ?_
          refine e_getR (r := Rf v0 2) fl_X2_15 dX2_value_119 (okX2_o hv0) (okX2_R hv0) (isA_ne (okX2_pile hv0)) (pc2 := 122) rfl ?_
          refine e_iload dX2_value_122 5 rfl (pc2 := 124) rfl ?_
          refine e_iconst (x := 1) dX2_value_124 (by decide) (pc2 := 125) rfl ?_
          refine e_isub dX2_value_125 (pc2 := 126) rfl ?_
          obtain ⟨g52, hf⟩ := gd_some hf
          refine e_iald dX2_value_126 (okX2_pile hv0) (inb_v g52) (pc2 := 127) rfl ?_
          refine e_if_ne (tgt := 134) dX2_value_127 (by decide) (pc2 := 130) rfl (fun c53 => ?_) (fun c53 => ?_)
          · have hf := if_f c53 hf
            refine e_iconst (x := 0) dX2_value_134 (by decide) (pc2 := 135) rfl ?_
            obtain ⟨g55, hf⟩ := gd_some hf
            obtain ⟨s54, es54, hf⟩ := ltb_s hf
            refine e_iast dX2_value_135 (okX2_pile hv0) (inb_v g55) (h2 := hp s54) (by rw [es54]; rfl) (pc2 := 136) rfl ?_
            refine e_goto (tgt := 358) dX2_value_136 (by decide) ?_
            refine ev_sub [0, 1, 2, 3, 4, 5, 6] rfl ?_
            exact t_X2_value_j358 v0 v1 v2 v3 v4 v5 v6 hv0 s54 _ hk6 hf
          · have hf := if_t c53 hf
            refine e_iconst (x := 1) dX2_value_130 (by decide) (pc2 := 131) rfl ?_
            refine e_goto (tgt := 135) dX2_value_131 (by decide) ?_
            obtain ⟨g57, hf⟩ := gd_some hf
            obtain ⟨s56, es56, hf⟩ := ltb_s hf
            refine e_iast dX2_value_135 (okX2_pile hv0) (inb_v g57) (h2 := hp s56) (by rw [es56]; rfl) (pc2 := 136) rfl ?_
            refine e_goto (tgt := 358) dX2_value_136 (by decide) ?_
            refine ev_sub [0, 1, 2, 3, 4, 5, 6] rfl ?_
            exact t_X2_value_j358 v0 v1 v2 v3 v4 v5 v6 hv0 s56 _ hk6 hf
    · have hf := if_f c4 hf
      refine e_iload dX2_value_31 5 rfl (pc2 := 33) rfl ?_
      refine e_aload_n dX2_value_33 0 rfl rfl (pc2 := 34) rfl ?_
      refine e_getR (r := Rf v0 2) fl_X2_15 dX2_value_34 (okX2_o hv0) (okX2_R hv0) (isA_ne (okX2_pile hv0)) (pc2 := 37) rfl ?_
      refine e_alen (x := 32) dX2_value_37 (okX2_pile hv0) (by decide) (by decide) (pc2 := 38) rfl ?_
      refine e_icmp_ge (tgt := 358) dX2_value_38 (by decide) (pc2 := 41) rfl (fun c58 => ?_) (fun c58 => ?_)
      · have hf := if_t c58 hf
        refine ev_sub [0, 1, 2, 3, 4, 5, 6] rfl ?_
        exact t_X2_value_j358 v0 v1 v2 v3 v4 v5 v6 hv0 s _ hk6 hf
      · have hf := if_f c58 hf
        refine e_aload_n dX2_value_41 0 rfl rfl (pc2 := 42) rfl ?_
        refine e_getR (r := Rf v0 2) fl_X2_15 dX2_value_42 (okX2_o hv0) (okX2_R hv0) (isA_ne (okX2_pile hv0)) (pc2 := 45) rfl ?_
        refine e_iload dX2_value_45 5 rfl (pc2 := 47) rfl ?_
        refine e_iload dX2_value_47 7 rfl (pc2 := 49) rfl ?_
        refine e_if_lt (tgt := 57) dX2_value_49 (by decide) (pc2 := 52) rfl (fun c59 => ?_) (fun c59 => ?_)
        · have hf := if_t c59 hf
          refine e_iload dX2_value_57 7 rfl (pc2 := 59) rfl ?_
          refine e_iconst (x := (-1)) dX2_value_59 (by decide) (pc2 := 60) rfl ?_
          refine e_icmp_ne (tgt := 67) dX2_value_60 (by decide) (pc2 := 63) rfl (fun c60 => ?_) (fun c60 => ?_)
          · have hf := if_f c60 hf
            refine e_iload dX2_value_67 7 rfl (pc2 := 69) rfl ?_
            refine e_bipush (x := (-2)) dX2_value_69 (by decide) (pc2 := 71) rfl ?_
            refine e_icmp_ne (tgt := 78) dX2_value_71 (by decide) (pc2 := 74) rfl (fun c61 => ?_) (fun c61 => ?_)
            · have hf := if_f c61 hf
              refine e_iload dX2_value_78 7 rfl (pc2 := 80) rfl ?_
              refine e_bipush (x := (-3)) dX2_value_80 (by decide) (pc2 := 82) rfl ?_
              refine e_icmp_ne (tgt := 89) dX2_value_82 (by decide) (pc2 := 85) rfl (fun c62 => ?_) (fun c62 => ?_)
              · have hf := if_f c62 hf
                refine e_iload dX2_value_89 4 rfl (pc2 := 91) rfl ?_
                obtain ⟨g64, hf⟩ := gd_some hf
                obtain ⟨s63, es63, hf⟩ := ltb_s hf
                refine e_iast dX2_value_91 (okX2_pile hv0) (inb_v g64) (h2 := hp s63) (by rw [es63]; rfl) (pc2 := 92) rfl ?_
                obtain ⟨x65, ex65, hf⟩ := ltb_s hf
                refine e_iinc dX2_value_92 5 rfl (c9 := 1) (by decide) ex65.symm (by decide) (ls' := [(0, .ref v0), (1, .int v1), (2, .int v2), (3, .int v3), (4, .int v4), (5, .int x65), (6, .int v6)]) [1, 2, 3, 4, 5, 0, 6] rfl (pc2 := 95) rfl ?_
                refine e_goto (tgt := 358) dX2_value_95 (by decide) ?_
                exact t_X2_value_j358 v0 v1 v2 v3 v4 x65 v6 hv0 s63 _ hk6 hf
              · have hf := if_t c62 hf
                refine e_iload_n dX2_value_85 3 rfl rfl (pc2 := 86) rfl ?_
                refine e_goto (tgt := 91) dX2_value_86 (by decide) ?_
                obtain ⟨g67, hf⟩ := gd_some hf
                obtain ⟨s66, es66, hf⟩ := ltb_s hf
                refine e_iast dX2_value_91 (okX2_pile hv0) (inb_v g67) (h2 := hp s66) (by rw [es66]; rfl) (pc2 := 92) rfl ?_
                obtain ⟨x68, ex68, hf⟩ := ltb_s hf
                refine e_iinc dX2_value_92 5 rfl (c9 := 1) (by decide) ex68.symm (by decide) (ls' := [(0, .ref v0), (1, .int v1), (2, .int v2), (3, .int v3), (4, .int v4), (5, .int x68), (6, .int v6)]) [1, 2, 3, 4, 5, 0, 6] rfl (pc2 := 95) rfl ?_
                refine e_goto (tgt := 358) dX2_value_95 (by decide) ?_
                exact t_X2_value_j358 v0 v1 v2 v3 v4 x68 v6 hv0 s66 _ hk6 hf
            · have hf := if_t c61 hf
              refine e_iload_n dX2_value_74 2 rfl rfl (pc2 := 75) rfl ?_
              refine e_goto (tgt := 91) dX2_value_75 (by decide) ?_
              obtain ⟨g70, hf⟩ := gd_some hf
              obtain ⟨s69, es69, hf⟩ := ltb_s hf
              refine e_iast dX2_value_91 (okX2_pile hv0) (inb_v g70) (h2 := hp s69) (by rw [es69]; rfl) (pc2 := 92) rfl ?_
              obtain ⟨x71, ex71, hf⟩ := ltb_s hf
              refine e_iinc dX2_value_92 5 rfl (c9 := 1) (by decide) ex71.symm (by decide) (ls' := [(0, .ref v0), (1, .int v1), (2, .int v2), (3, .int v3), (4, .int v4), (5, .int x71), (6, .int v6)]) [1, 2, 3, 4, 5, 0, 6] rfl (pc2 := 95) rfl ?_
              refine e_goto (tgt := 358) dX2_value_95 (by decide) ?_
              exact t_X2_value_j358 v0 v1 v2 v3 v4 x71 v6 hv0 s69 _ hk6 hf
          · have hf := if_t c60 hf
            refine e_iload_n dX2_value_63 1 rfl rfl (pc2 := 64) rfl ?_
            refine e_goto (tgt := 91) dX2_value_64 (by decide) ?_
            obtain ⟨g73, hf⟩ := gd_some hf
            obtain ⟨s72, es72, hf⟩ := ltb_s hf
            refine e_iast dX2_value_91 (okX2_pile hv0) (inb_v g73) (h2 := hp s72) (by rw [es72]; rfl) (pc2 := 92) rfl ?_
            obtain ⟨x74, ex74, hf⟩ := ltb_s hf
            refine e_iinc dX2_value_92 5 rfl (c9 := 1) (by decide) ex74.symm (by decide) (ls' := [(0, .ref v0), (1, .int v1), (2, .int v2), (3, .int v3), (4, .int v4), (5, .int x74), (6, .int v6)]) [1, 2, 3, 4, 5, 0, 6] rfl (pc2 := 95) rfl ?_
            refine e_goto (tgt := 358) dX2_value_95 (by decide) ?_
            exact t_X2_value_j358 v0 v1 v2 v3 v4 x74 v6 hv0 s72 _ hk6 hf
        · have hf := if_f c59 hf
          refine e_iload dX2_value_52 7 rfl (pc2 := 54) rfl ?_
          refine e_goto (tgt := 91) dX2_value_54 (by decide) ?_
          obtain ⟨g76, hf⟩ := gd_some hf
          obtain ⟨s75, es75, hf⟩ := ltb_s hf
          refine e_iast dX2_value_91 (okX2_pile hv0) (inb_v g76) (h2 := hp s75) (by rw [es75]; rfl) (pc2 := 92) rfl ?_
          obtain ⟨x77, ex77, hf⟩ := ltb_s hf
          refine e_iinc dX2_value_92 5 rfl (c9 := 1) (by decide) ex77.symm (by decide) (ls' := [(0, .ref v0), (1, .int v1), (2, .int v2), (3, .int v3), (4, .int v4), (5, .int x77), (6, .int v6)]) [1, 2, 3, 4, 5, 0, 6] rfl (pc2 := 95) rfl ?_
          refine e_goto (tgt := 358) dX2_value_95 (by decide) ?_
          exact t_X2_value_j358 v0 v1 v2 v3 v4 x77 v6 hv0 s75 _ hk6 hf
def f_X2_value_l6 (v0 : Nat) (v1 : Int32) (v2 : Int32) (v3 : Int32) (v4 : Int32) (k364 : Int32 → HS → Option (Int32 × HS)) : Nat → Int32 → Int32 → HS → Option (Int32 × HS)
  | 0, _, _, _ => none
  | n + 1, v5, v6, s => f_X2_value_l6b v0 v1 v2 v3 v4 v5 v6 (f_X2_value_l6 v0 v1 v2 v3 v4 k364 n) k364 s
set_option maxRecDepth 20000 in
set_option maxHeartbeats 2000000 in
theorem t_X2_value_l6 (v0 : Nat) (v1 : Int32) (v2 : Int32) (v3 : Int32) (v4 : Int32) (hv0 : okX2 v0 = true) {x : Int32} {t : HS} (k364 : Int32 → HS → Option (Int32 × HS)) (hk364 : ∀ (a5 : Int32) (s : HS), k364 a5 s = some (x, t) → Ev DDX2_value miX2_value NF (some (.int x)) NF (hp t) 364 NF [(0, .ref v0), (5, .int a5)] [] (hp s)) : ∀ (n : Nat) (v5 : Int32) (v6 : Int32) (s : HS), f_X2_value_l6 v0 v1 v2 v3 v4 k364 n v5 v6 s = some (x, t) → Ev DDX2_value miX2_value NF (some (.int x)) NF (hp t) 6 NF [(0, .ref v0), (1, .int v1), (2, .int v2), (3, .int v3), (4, .int v4), (5, .int v5), (6, .int v6)] [] (hp s) := by
  intro n
  induction n with
  | zero =>
    intro v5 v6 s hf
    have hf : none = some (x, t) := hf
    cases hf
  | succ n ih =>
    intro v5 v6 s hf
    exact t_X2_value_l6b v0 v1 v2 v3 v4 v5 v6 hv0 s _ ih _ hk364 hf
def f_X2_value (p : Nat) (v1 : Int32) (v2 : Int32) (v3 : Int32) (v4 : Int32) (s : HS) : Option (Int32 × HS) :=
  f_X2_value_l6 p v1 v2 v3 v4 (fun v78 s79 => (if v78 ≤ 0 then some (0, s79) else some (s79.1 (Rf p 2) 0, s79))) FU 0 0 s
set_option maxRecDepth 20000 in
set_option maxHeartbeats 2000000 in
theorem t_X2_value (p : Nat) (hp_ : okX2 p = true) (v1 : Int32) (v2 : Int32) (v3 : Int32) (v4 : Int32) (s : HS) {x : Int32} {t : HS} (hf : f_X2_value p v1 v2 v3 v4 s = some (x, t)) : Mt DDX2_value miX2_value [.ref p, .int v1, .int v2, .int v3, .int v4] NF (hp s) (some (.int x)) NF (hp t) := by
  refine Mt.of (by decide +kernel) (Nat.le_refl _) (Nat.le_of_ble_eq_true rfl) ?_
  show Ev DDX2_value miX2_value NF (some (.int x)) NF (hp t) 0 NF [(0, .ref p), (1, .int v1), (2, .int v2), (3, .int v3), (4, .int v4)] [] (hp s)
  unfold f_X2_value at hf
  refine e_iconst (x := 0) dX2_value_0 (by decide) (pc2 := 1) rfl ?_
  refine e_istore dX2_value_1 (by decide) rfl (ls' := [(0, .ref p), (1, .int v1), (2, .int v2), (3, .int v3), (4, .int v4), (5, .int 0)]) [1, 2, 3, 4, 5, 0] rfl (pc2 := 3) rfl ?_
  refine e_iconst (x := 0) dX2_value_3 (by decide) (pc2 := 4) rfl ?_
  refine e_istore dX2_value_4 (by decide) rfl (ls' := [(0, .ref p), (1, .int v1), (2, .int v2), (3, .int v3), (4, .int v4), (5, .int 0), (6, .int 0)]) [1, 2, 3, 4, 5, 6, 0] rfl (pc2 := 6) rfl ?_
  refine t_X2_value_l6 p v1 v2 v3 v4 hp_ _ ?_ FU 0 0 s hf
  · intro v78 s79 hf
    refine e_iload dX2_value_364 1 rfl (pc2 := 366) rfl ?_
    refine e_if_le (tgt := 378) dX2_value_366 (by decide) (pc2 := 369) rfl (fun c80 => ?_) (fun c80 => ?_)
    · have hf := if_t c80 hf
      refine e_iconst (x := 0) dX2_value_378 (by decide) (pc2 := 379) rfl ?_
      cases hf
      exact e_iret rfl dX2_value_379
    · have hf := if_f c80 hf
      refine e_aload_n dX2_value_369 0 rfl rfl (pc2 := 370) rfl ?_
      refine e_getR (r := Rf p 2) fl_X2_15 dX2_value_370 (okX2_o hp_) (okX2_R hp_) (isA_ne (okX2_pile hp_)) (pc2 := 373) rfl ?_
      refine e_iconst (x := 0) dX2_value_373 (by decide) (pc2 := 374) rfl ?_
      refine e_iald dX2_value_374 (okX2_pile hp_) (inb_v (by decide)) (pc2 := 375) rfl ?_
      refine e_goto (tgt := 379) dX2_value_375 (by decide) ?_
      cases hf
      exact e_iret rfl dX2_value_379
abbrev DDX8_isSign : Nat := 1
def f_X8_isSign (v1 : Int32) (s : HS) : Int32 :=
  (if (s.1 36 4) = 3 then (if (s.1 36 7) = v1 then 1 else 0) else 0)
set_option maxRecDepth 20000 in
set_option maxHeartbeats 2000000 in
theorem t_X8_isSign (v1 : Int32) (s : HS) {x : Int32} (hf : f_X8_isSign v1 s = x) : Mt DDX8_isSign miX8_isSign [.ref 36, .int v1] NF (hp s) (some (.int x)) NF (hp s) := by
  refine Mt.of (by decide +kernel) (Nat.le_refl _) (Nat.le_of_ble_eq_true rfl) ?_
  show Ev DDX8_isSign miX8_isSign NF (some (.int x)) NF (hp s) 0 NF [(0, .ref 36), (1, .int v1)] [] (hp s)
  unfold f_X8_isSign at hf
  refine e_aload_n dX8_isSign_0 0 rfl rfl (pc2 := 1) rfl ?_
  refine e_getI fl_X8_30 dX8_isSign_1 so_36 (by decide) (pc2 := 4) rfl ?_
  refine e_iconst (x := 3) dX8_isSign_4 (by decide) (pc2 := 5) rfl ?_
  refine e_icmp_ne (tgt := 20) dX8_isSign_5 (by decide) (pc2 := 8) rfl (fun c1 => ?_) (fun c1 => ?_)
  · have hf := if_f c1 hf
    refine e_iconst (x := 0) dX8_isSign_20 (by decide) (pc2 := 21) rfl ?_
    cases hf
    exact e_zret (by decide) rfl dX8_isSign_21
  · have hf := if_t c1 hf
    refine e_aload_n dX8_isSign_8 0 rfl rfl (pc2 := 9) rfl ?_
    refine e_getI fl_X8_50 dX8_isSign_9 so_36 (by decide) (pc2 := 12) rfl ?_
    refine e_iload_n dX8_isSign_12 1 rfl rfl (pc2 := 13) rfl ?_
    refine e_icmp_ne (tgt := 20) dX8_isSign_13 (by decide) (pc2 := 16) rfl (fun c2 => ?_) (fun c2 => ?_)
    · have hf := if_f c2 hf
      refine e_iconst (x := 0) dX8_isSign_20 (by decide) (pc2 := 21) rfl ?_
      cases hf
      exact e_zret (by decide) rfl dX8_isSign_21
    · have hf := if_t c2 hf
      refine e_iconst (x := 1) dX8_isSign_16 (by decide) (pc2 := 17) rfl ?_
      refine e_goto (tgt := 21) dX8_isSign_17 (by decide) ?_
      cases hf
      exact e_zret (by decide) rfl dX8_isSign_21
abbrev DDX3_factOf : Nat := 1
def f_X3_factOf (v0 : Nat) (s : HS) : Int32 :=
  (if v0 = 1033 then (-1) else (if v0 = 1034 then (-2) else (if v0 = 1035 then (-3) else (-4))))
set_option maxRecDepth 20000 in
set_option maxHeartbeats 2000000 in
theorem t_X3_factOf (v0 : Nat) (hv0 : wob v0 = true) (s : HS) {x : Int32} (hf : f_X3_factOf v0 s = x) : Mt DDX3_factOf miX3_factOf [rva v0] NF (hp s) (some (.int x)) NF (hp s) := by
  refine Mt.of (by decide +kernel) (Nat.le_refl _) (by simp [lg_sl, rva_cat, vc_i, vc_r, vc_l, vc_n]) ?_
  rw [show lv_args 0 [rva v0] = [(0, rva v0)] by simp [lv_args, rva_cat, vc_i, vc_r, vc_l, vc_n]]
  show Ev DDX3_factOf miX3_factOf NF (some (.int x)) NF (hp s) 0 NF [(0, rva v0)] [] (hp s)
  unfold f_X3_factOf at hf
  refine e_aload_nQ (w := v0) dX3_factOf_0 0 rfl rfl (pc2 := 1) rfl ?_
  refine e_getsE (i := 33) (by decide) dX3_factOf_1 gs_X3_82 (pc2 := 4) rfl ?_
  refine e_acmp_ne (tgt := 11) dX3_factOf_4 (by decide) (w1 := v0) (w2 := 1033) hv0 (by decide) (pc2 := 7) rfl (fun c1 => ?_) (fun c1 => ?_)
  · have hf := if_f c1 hf
    refine e_aload_nQ (w := v0) dX3_factOf_11 0 rfl rfl (pc2 := 12) rfl ?_
    refine e_getsE (i := 34) (by decide) dX3_factOf_12 gs_X3_85 (pc2 := 15) rfl ?_
    refine e_acmp_ne (tgt := 23) dX3_factOf_15 (by decide) (w1 := v0) (w2 := 1034) hv0 (by decide) (pc2 := 18) rfl (fun c2 => ?_) (fun c2 => ?_)
    · have hf := if_f c2 hf
      refine e_aload_nQ (w := v0) dX3_factOf_23 0 rfl rfl (pc2 := 24) rfl ?_
      refine e_getsE (i := 35) (by decide) dX3_factOf_24 gs_X3_88 (pc2 := 27) rfl ?_
      refine e_acmp_ne (tgt := 35) dX3_factOf_27 (by decide) (w1 := v0) (w2 := 1035) hv0 (by decide) (pc2 := 30) rfl (fun c3 => ?_) (fun c3 => ?_)
      · have hf := if_f c3 hf
        refine e_bipush (x := (-4)) dX3_factOf_35 (by decide) (pc2 := 37) rfl ?_
        cases hf
        exact e_iret rfl dX3_factOf_37
      · have hf := if_t c3 hf
        refine e_bipush (x := (-3)) dX3_factOf_30 (by decide) (pc2 := 32) rfl ?_
        refine e_goto (tgt := 37) dX3_factOf_32 (by decide) ?_
        cases hf
        exact e_iret rfl dX3_factOf_37
    · have hf := if_t c2 hf
      refine e_bipush (x := (-2)) dX3_factOf_18 (by decide) (pc2 := 20) rfl ?_
      refine e_goto (tgt := 37) dX3_factOf_20 (by decide) ?_
      cases hf
      exact e_iret rfl dX3_factOf_37
  · have hf := if_t c1 hf
    refine e_iconst (x := (-1)) dX3_factOf_7 (by decide) (pc2 := 8) rfl ?_
    refine e_goto (tgt := 37) dX3_factOf_8 (by decide) ?_
    cases hf
    exact e_iret rfl dX3_factOf_37
abbrev DDX4_clear : Nat := 1
def f_X4_clear (p : Nat) (s : HS) : Option HS :=
  ltb (sI s p 0 600) fun s1 => ltb (sI s1 p 1 540) fun s2 => ltb (sI s2 p 2 2) fun s3 => ltb (sI s3 p 3 10) fun s4 => ltb (sI s4 p 4 60) fun s5 => ltb (sI s5 p 5 30) fun s6 => ltb (sI s6 p 6 5) fun s7 => ltb (sI s7 (Rf p 7) (0) 10) fun s8 => ltb (sI s8 (Rf p 7) (1) 0) fun s9 => ltb (sI s9 (Rf p 7) (2) 0) fun s10 => ltb (sI s10 (Rf p 7) (3) 0) fun s11 => ltb (sI s11 (Rf p 8) 1 0) fun s12 => ltb (sI s12 p 9 0) fun s13 => ltb (sI s13 p 12 0) fun s14 => ltb (sI s14 p 14 0) fun s15 => some s15
set_option maxRecDepth 20000 in
set_option maxHeartbeats 2000000 in
theorem t_X4_clear (p : Nat) (hp_ : okX4 p = true) (s : HS) {t : HS} (hf : f_X4_clear p s = some t) : Mt DDX4_clear miX4_clear [.ref p] NF (hp s) none NF (hp t) := by
  refine Mt.of (by decide +kernel) (Nat.le_refl _) (Nat.le_of_ble_eq_true rfl) ?_
  show Ev DDX4_clear miX4_clear NF none NF (hp t) 0 NF [(0, .ref p)] [] (hp s)
  unfold f_X4_clear at hf
  refine e_aload_n dX4_clear_0 0 rfl rfl (pc2 := 1) rfl ?_
  refine e_sipush (x := 600) dX4_clear_1 (by decide) (pc2 := 4) rfl ?_
  obtain ⟨s1, es1, hf⟩ := ltb_s hf
  refine e_putI fl_X4_46 dX4_clear_4 (okX4_o hp_) fn_4_0 (h2 := hp s1) (by rw [es1]; rfl) (pc2 := 7) rfl ?_
  refine e_aload_n dX4_clear_7 0 rfl rfl (pc2 := 8) rfl ?_
  refine e_sipush (x := 540) dX4_clear_8 (by decide) (pc2 := 11) rfl ?_
  obtain ⟨s2, es2, hf⟩ := ltb_s hf
  refine e_putI fl_X4_50 dX4_clear_11 (okX4_o hp_) fn_4_1 (h2 := hp s2) (by rw [es2]; rfl) (pc2 := 14) rfl ?_
  refine e_aload_n dX4_clear_14 0 rfl rfl (pc2 := 15) rfl ?_
  refine e_iconst (x := 2) dX4_clear_15 (by decide) (pc2 := 16) rfl ?_
  obtain ⟨s3, es3, hf⟩ := ltb_s hf
  refine e_putI fl_X4_53 dX4_clear_16 (okX4_o hp_) fn_4_2 (h2 := hp s3) (by rw [es3]; rfl) (pc2 := 19) rfl ?_
  refine e_aload_n dX4_clear_19 0 rfl rfl (pc2 := 20) rfl ?_
  refine e_bipush (x := 10) dX4_clear_20 (by decide) (pc2 := 22) rfl ?_
  obtain ⟨s4, es4, hf⟩ := ltb_s hf
  refine e_putI fl_X4_56 dX4_clear_22 (okX4_o hp_) fn_4_3 (h2 := hp s4) (by rw [es4]; rfl) (pc2 := 25) rfl ?_
  refine e_aload_n dX4_clear_25 0 rfl rfl (pc2 := 26) rfl ?_
  refine e_bipush (x := 60) dX4_clear_26 (by decide) (pc2 := 28) rfl ?_
  obtain ⟨s5, es5, hf⟩ := ltb_s hf
  refine e_putI fl_X4_59 dX4_clear_28 (okX4_o hp_) fn_4_4 (h2 := hp s5) (by rw [es5]; rfl) (pc2 := 31) rfl ?_
  refine e_aload_n dX4_clear_31 0 rfl rfl (pc2 := 32) rfl ?_
  refine e_bipush (x := 30) dX4_clear_32 (by decide) (pc2 := 34) rfl ?_
  obtain ⟨s6, es6, hf⟩ := ltb_s hf
  refine e_putI fl_X4_62 dX4_clear_34 (okX4_o hp_) fn_4_5 (h2 := hp s6) (by rw [es6]; rfl) (pc2 := 37) rfl ?_
  refine e_aload_n dX4_clear_37 0 rfl rfl (pc2 := 38) rfl ?_
  refine e_iconst (x := 5) dX4_clear_38 (by decide) (pc2 := 39) rfl ?_
  obtain ⟨s7, es7, hf⟩ := ltb_s hf
  refine e_putI fl_X4_65 dX4_clear_39 (okX4_o hp_) fn_4_6 (h2 := hp s7) (by rw [es7]; rfl) (pc2 := 42) rfl ?_
  refine e_aload_n dX4_clear_42 0 rfl rfl (pc2 := 43) rfl ?_
  refine e_getR (r := Rf p 7) fl_X4_9 dX4_clear_43 (okX4_o hp_) (okX4_R hp_) (isA_ne (okX4_late hp_)) (pc2 := 46) rfl ?_
  refine e_iconst (x := 0) dX4_clear_46 (by decide) (pc2 := 47) rfl ?_
  refine e_bipush (x := 10) dX4_clear_47 (by decide) (pc2 := 49) rfl ?_
  obtain ⟨s8, es8, hf⟩ := ltb_s hf
  refine e_iast dX4_clear_49 (okX4_late hp_) (inb_v (by decide)) (h2 := hp s8) (by rw [es8]; rfl) (pc2 := 50) rfl ?_
  refine e_aload_n dX4_clear_50 0 rfl rfl (pc2 := 51) rfl ?_
  refine e_getR (r := Rf p 7) fl_X4_9 dX4_clear_51 (okX4_o hp_) (okX4_R hp_) (isA_ne (okX4_late hp_)) (pc2 := 54) rfl ?_
  refine e_iconst (x := 1) dX4_clear_54 (by decide) (pc2 := 55) rfl ?_
  refine e_iconst (x := 0) dX4_clear_55 (by decide) (pc2 := 56) rfl ?_
  obtain ⟨s9, es9, hf⟩ := ltb_s hf
  refine e_iast dX4_clear_56 (okX4_late hp_) (inb_v (by decide)) (h2 := hp s9) (by rw [es9]; rfl) (pc2 := 57) rfl ?_
  refine e_aload_n dX4_clear_57 0 rfl rfl (pc2 := 58) rfl ?_
  refine e_getR (r := Rf p 7) fl_X4_9 dX4_clear_58 (okX4_o hp_) (okX4_R hp_) (isA_ne (okX4_late hp_)) (pc2 := 61) rfl ?_
  refine e_iconst (x := 2) dX4_clear_61 (by decide) (pc2 := 62) rfl ?_
  refine e_iconst (x := 0) dX4_clear_62 (by decide) (pc2 := 63) rfl ?_
  obtain ⟨s10, es10, hf⟩ := ltb_s hf
  refine e_iast dX4_clear_63 (okX4_late hp_) (inb_v (by decide)) (h2 := hp s10) (by rw [es10]; rfl) (pc2 := 64) rfl ?_
  refine e_aload_n dX4_clear_64 0 rfl rfl (pc2 := 65) rfl ?_
  refine e_getR (r := Rf p 7) fl_X4_9 dX4_clear_65 (okX4_o hp_) (okX4_R hp_) (isA_ne (okX4_late hp_)) (pc2 := 68) rfl ?_
  refine e_iconst (x := 3) dX4_clear_68 (by decide) (pc2 := 69) rfl ?_
  refine e_iconst (x := 0) dX4_clear_69 (by decide) (pc2 := 70) rfl ?_
  obtain ⟨s11, es11, hf⟩ := ltb_s hf
  refine e_iast dX4_clear_70 (okX4_late hp_) (inb_v (by decide)) (h2 := hp s11) (by rw [es11]; rfl) (pc2 := 71) rfl ?_
  refine e_aload_n dX4_clear_71 0 rfl rfl (pc2 := 72) rfl ?_
  refine e_getR (r := Rf p 8) fl_X4_18 dX4_clear_72 (okX4_o hp_) (okX4_R hp_) (okX2_ne (okX4_order hp_)) (pc2 := 75) rfl ?_
  refine e_iconst (x := 0) dX4_clear_75 (by decide) (pc2 := 76) rfl ?_
  obtain ⟨s12, es12, hf⟩ := ltb_s hf
  refine e_putI fl_X4_68 dX4_clear_76 (okX2_o (okX4_order hp_)) fn_2_1 (h2 := hp s12) (by rw [es12]; rfl) (pc2 := 79) rfl ?_
  refine e_aload_n dX4_clear_79 0 rfl rfl (pc2 := 80) rfl ?_
  refine e_iconst (x := 0) dX4_clear_80 (by decide) (pc2 := 81) rfl ?_
  obtain ⟨s13, es13, hf⟩ := ltb_s hf
  refine e_putI fl_X4_71 dX4_clear_81 (okX4_o hp_) fn_4_9 (h2 := hp s13) (by rw [es13]; rfl) (pc2 := 84) rfl ?_
  refine e_aload_n dX4_clear_84 0 rfl rfl (pc2 := 85) rfl ?_
  refine e_iconst (x := 0) dX4_clear_85 (by decide) (pc2 := 86) rfl ?_
  obtain ⟨s14, es14, hf⟩ := ltb_s hf
  refine e_putI fl_X4_74 dX4_clear_86 (okX4_o hp_) fn_4_12 (h2 := hp s14) (by rw [es14]; rfl) (pc2 := 89) rfl ?_
  refine e_aload_n dX4_clear_89 0 rfl rfl (pc2 := 90) rfl ?_
  refine e_iconst (x := 0) dX4_clear_90 (by decide) (pc2 := 91) rfl ?_
  obtain ⟨s15, es15, hf⟩ := ltb_s hf
  refine e_putI fl_X4_77 dX4_clear_91 (okX4_o hp_) fn_4_14 (h2 := hp s15) (by rw [es15]; rfl) (pc2 := 94) rfl ?_
  cases hf
  exact e_vret rfl dX4_clear_94
abbrev DDX4_coachOf : Nat := 1
def f_X4_coachOf_l2b (v0 : Nat) (v1 : Int64) (v3 : Int32) (k2 : Int32 → Option Int32) (s : HS) : Option Int32 :=
  (if (s.1 v0 9) ≤ v3 then some (-1) else gd (inb v3 6) ((if (lg_cmp (s.2.1 (Rf v0 10) v3.toNatClampNeg) v1) = 0 then some v3 else ltb (v3 + 1) fun x4 => k2 x4)))
set_option maxRecDepth 20000 in
set_option maxHeartbeats 2000000 in
theorem t_X4_coachOf_l2b (v0 : Nat) (v1 : Int64) (v3 : Int32) (hv0 : okX4 v0 = true) (s : HS) {x : Int32} (k2 : Int32 → Option Int32) (hk2 : ∀ (a3 : Int32), k2 a3 = some x → Ev DDX4_coachOf miX4_coachOf NF (some (.int x)) NF (hp s) 2 NF [(0, .ref v0), (1, .long v1), (3, .int a3)] [] (hp s)) (hf : f_X4_coachOf_l2b v0 v1 v3 k2 s = some x) : Ev DDX4_coachOf miX4_coachOf NF (some (.int x)) NF (hp s) 2 NF [(0, .ref v0), (1, .long v1), (3, .int v3)] [] (hp s) := by
  refine e_iload_n dX4_coachOf_2 2 rfl rfl (pc2 := 3) rfl ?_
  refine e_aload_n dX4_coachOf_3 0 rfl rfl (pc2 := 4) rfl ?_
  refine e_getI fl_X4_71 dX4_coachOf_4 (okX4_o hv0) (by decide) (pc2 := 7) rfl ?_
  refine e_icmp_ge (tgt := 29) dX4_coachOf_7 (by decide) (pc2 := 10) rfl (fun c1 => ?_) (fun c1 => ?_)
  · have hf := if_t c1 hf
    refine e_iconst (x := (-1)) dX4_coachOf_29 (by decide) (pc2 := 30) rfl ?_
    cases hf
    exact e_iret rfl dX4_coachOf_30
  · have hf := if_f c1 hf
    refine e_aload_n dX4_coachOf_10 0 rfl rfl (pc2 := 11) rfl ?_
    refine e_getR (r := Rf v0 10) fl_X4_22 dX4_coachOf_11 (okX4_o hv0) (okX4_R hv0) (isA_ne (okX4_coachName hv0)) (pc2 := 14) rfl ?_
    refine e_iload_n dX4_coachOf_14 2 rfl rfl (pc2 := 15) rfl ?_
    obtain ⟨g2, hf⟩ := gd_some hf
    refine e_lald dX4_coachOf_15 (okX4_coachName hv0) (inb_v g2) (pc2 := 16) rfl ?_
    refine e_lload_n dX4_coachOf_16 1 rfl rfl (pc2 := 17) rfl ?_
    refine e_lcmp dX4_coachOf_17 (pc2 := 18) rfl ?_
    refine e_if_ne (tgt := 23) dX4_coachOf_18 (by decide) (pc2 := 21) rfl (fun c3 => ?_) (fun c3 => ?_)
    · have hf := if_f c3 hf
      obtain ⟨x4, ex4, hf⟩ := ltb_s hf
      refine e_iinc dX4_coachOf_23 2 rfl (c9 := 1) (by decide) ex4.symm (by decide) (ls' := [(0, .ref v0), (1, .long v1), (3, .int x4)]) [1, 2, 0] rfl (pc2 := 26) rfl ?_
      refine e_goto (tgt := 2) dX4_coachOf_26 (by decide) ?_
      exact hk2 x4 hf
    · have hf := if_t c3 hf
      refine e_iload_n dX4_coachOf_21 2 rfl rfl (pc2 := 22) rfl ?_
      cases hf
      exact e_iret rfl dX4_coachOf_22
def f_X4_coachOf_l2 (v0 : Nat) (v1 : Int64) (s : HS) : Nat → Int32 → Option Int32
  | 0, _ => none
  | n + 1, v3 => f_X4_coachOf_l2b v0 v1 v3 (f_X4_coachOf_l2 v0 v1 s n)  s
set_option maxRecDepth 20000 in
set_option maxHeartbeats 2000000 in
theorem t_X4_coachOf_l2 (v0 : Nat) (v1 : Int64) (hv0 : okX4 v0 = true) (s : HS) {x : Int32}  : ∀ (n : Nat) (v3 : Int32), f_X4_coachOf_l2 v0 v1 s n v3 = some x → Ev DDX4_coachOf miX4_coachOf NF (some (.int x)) NF (hp s) 2 NF [(0, .ref v0), (1, .long v1), (3, .int v3)] [] (hp s) := by
  intro n
  induction n with
  | zero =>
    intro v3 hf
    have hf : none = some x := hf
    cases hf
  | succ n ih =>
    intro v3 hf
    exact t_X4_coachOf_l2b v0 v1 v3 hv0 s _ ih  hf
def f_X4_coachOf (p : Nat) (v1 : Int64) (s : HS) : Option Int32 :=
  f_X4_coachOf_l2 p v1 s FU 0
set_option maxRecDepth 20000 in
set_option maxHeartbeats 2000000 in
theorem t_X4_coachOf (p : Nat) (hp_ : okX4 p = true) (v1 : Int64) (s : HS) {x : Int32} (hf : f_X4_coachOf p v1 s = some x) : Mt DDX4_coachOf miX4_coachOf [.ref p, .long v1] NF (hp s) (some (.int x)) NF (hp s) := by
  refine Mt.of (by decide +kernel) (Nat.le_refl _) (Nat.le_of_ble_eq_true rfl) ?_
  show Ev DDX4_coachOf miX4_coachOf NF (some (.int x)) NF (hp s) 0 NF [(0, .ref p), (1, .long v1)] [] (hp s)
  unfold f_X4_coachOf at hf
  refine e_iconst (x := 0) dX4_coachOf_0 (by decide) (pc2 := 1) rfl ?_
  refine e_istore_n dX4_coachOf_1 rfl (by decide) rfl (ls' := [(0, .ref p), (1, .long v1), (3, .int 0)]) [1, 2, 0] rfl (pc2 := 2) rfl ?_
  refine t_X4_coachOf_l2 p v1 hp_ s FU 0 hf
abbrev DDX4_thingOf : Nat := 1
def f_X4_thingOf_l2b (v0 : Nat) (v1 : Int64) (v3 : Int32) (k2 : Int32 → Option Int32) (s : HS) : Option Int32 :=
  (if (s.1 v0 12) ≤ v3 then some (-1) else gd (inb v3 5) ((if (lg_cmp (s.2.1 (Rf (Rf v0 13) v3.toNatClampNeg) 0) v1) = 0 then some v3 else ltb (v3 + 1) fun x4 => k2 x4)))
set_option maxRecDepth 20000 in
set_option maxHeartbeats 2000000 in
theorem t_X4_thingOf_l2b (v0 : Nat) (v1 : Int64) (v3 : Int32) (hv0 : okX4 v0 = true) (s : HS) {x : Int32} (k2 : Int32 → Option Int32) (hk2 : ∀ (a3 : Int32), k2 a3 = some x → Ev DDX4_thingOf miX4_thingOf NF (some (.int x)) NF (hp s) 2 NF [(0, .ref v0), (1, .long v1), (3, .int a3)] [] (hp s)) (hf : f_X4_thingOf_l2b v0 v1 v3 k2 s = some x) : Ev DDX4_thingOf miX4_thingOf NF (some (.int x)) NF (hp s) 2 NF [(0, .ref v0), (1, .long v1), (3, .int v3)] [] (hp s) := by
  refine e_iload_n dX4_thingOf_2 2 rfl rfl (pc2 := 3) rfl ?_
  refine e_aload_n dX4_thingOf_3 0 rfl rfl (pc2 := 4) rfl ?_
  refine e_getI fl_X4_74 dX4_thingOf_4 (okX4_o hv0) (by decide) (pc2 := 7) rfl ?_
  refine e_icmp_ge (tgt := 32) dX4_thingOf_7 (by decide) (pc2 := 10) rfl (fun c1 => ?_) (fun c1 => ?_)
  · have hf := if_t c1 hf
    refine e_iconst (x := (-1)) dX4_thingOf_32 (by decide) (pc2 := 33) rfl ?_
    cases hf
    exact e_iret rfl dX4_thingOf_33
  · have hf := if_f c1 hf
    refine e_aload_n dX4_thingOf_10 0 rfl rfl (pc2 := 11) rfl ?_
    refine e_getR (r := Rf v0 13) fl_X4_31 dX4_thingOf_11 (okX4_o hv0) (okX4_R hv0) (isA_ne (okX4_thing hv0)) (pc2 := 14) rfl ?_
    refine e_iload_n dX4_thingOf_14 2 rfl rfl (pc2 := 15) rfl ?_
    obtain ⟨g2, hf⟩ := gd_some hf
    refine e_aald (r := Rf (Rf v0 13) v3.toNatClampNeg) dX4_thingOf_15 (okX4_thing hv0) (by decide) (inb_v g2) (Rs_na (q := s.2.2) (okX4_thing hv0) (by decide)) (okX9_ne (okX4_thing_el hv0 (inb_v g2))) (pc2 := 16) rfl ?_
    refine e_getL fl_X4_80 dX4_thingOf_16 (okX9_o (okX4_thing_el hv0 (inb_v g2))) rfl (pc2 := 19) rfl ?_
    refine e_lload_n dX4_thingOf_19 1 rfl rfl (pc2 := 20) rfl ?_
    refine e_lcmp dX4_thingOf_20 (pc2 := 21) rfl ?_
    refine e_if_ne (tgt := 26) dX4_thingOf_21 (by decide) (pc2 := 24) rfl (fun c3 => ?_) (fun c3 => ?_)
    · have hf := if_f c3 hf
      obtain ⟨x4, ex4, hf⟩ := ltb_s hf
      refine e_iinc dX4_thingOf_26 2 rfl (c9 := 1) (by decide) ex4.symm (by decide) (ls' := [(0, .ref v0), (1, .long v1), (3, .int x4)]) [1, 2, 0] rfl (pc2 := 29) rfl ?_
      refine e_goto (tgt := 2) dX4_thingOf_29 (by decide) ?_
      exact hk2 x4 hf
    · have hf := if_t c3 hf
      refine e_iload_n dX4_thingOf_24 2 rfl rfl (pc2 := 25) rfl ?_
      cases hf
      exact e_iret rfl dX4_thingOf_25
def f_X4_thingOf_l2 (v0 : Nat) (v1 : Int64) (s : HS) : Nat → Int32 → Option Int32
  | 0, _ => none
  | n + 1, v3 => f_X4_thingOf_l2b v0 v1 v3 (f_X4_thingOf_l2 v0 v1 s n)  s
set_option maxRecDepth 20000 in
set_option maxHeartbeats 2000000 in
theorem t_X4_thingOf_l2 (v0 : Nat) (v1 : Int64) (hv0 : okX4 v0 = true) (s : HS) {x : Int32}  : ∀ (n : Nat) (v3 : Int32), f_X4_thingOf_l2 v0 v1 s n v3 = some x → Ev DDX4_thingOf miX4_thingOf NF (some (.int x)) NF (hp s) 2 NF [(0, .ref v0), (1, .long v1), (3, .int v3)] [] (hp s) := by
  intro n
  induction n with
  | zero =>
    intro v3 hf
    have hf : none = some x := hf
    cases hf
  | succ n ih =>
    intro v3 hf
    exact t_X4_thingOf_l2b v0 v1 v3 hv0 s _ ih  hf
def f_X4_thingOf (p : Nat) (v1 : Int64) (s : HS) : Option Int32 :=
  f_X4_thingOf_l2 p v1 s FU 0
set_option maxRecDepth 20000 in
set_option maxHeartbeats 2000000 in
theorem t_X4_thingOf (p : Nat) (hp_ : okX4 p = true) (v1 : Int64) (s : HS) {x : Int32} (hf : f_X4_thingOf p v1 s = some x) : Mt DDX4_thingOf miX4_thingOf [.ref p, .long v1] NF (hp s) (some (.int x)) NF (hp s) := by
  refine Mt.of (by decide +kernel) (Nat.le_refl _) (Nat.le_of_ble_eq_true rfl) ?_
  show Ev DDX4_thingOf miX4_thingOf NF (some (.int x)) NF (hp s) 0 NF [(0, .ref p), (1, .long v1)] [] (hp s)
  unfold f_X4_thingOf at hf
  refine e_iconst (x := 0) dX4_thingOf_0 (by decide) (pc2 := 1) rfl ?_
  refine e_istore_n dX4_thingOf_1 rfl (by decide) rfl (ls' := [(0, .ref p), (1, .long v1), (3, .int 0)]) [1, 2, 0] rfl (pc2 := 2) rfl ?_
  refine t_X4_thingOf_l2 p v1 hp_ s FU 0 hf
abbrev DDX4_buyerOf : Nat := 1
def f_X4_buyerOf_l2b (v0 : Nat) (v1 : Int64) (v3 : Int32) (k2 : Int32 → Option Int32) (s : HS) : Option Int32 :=
  (if (s.1 v0 14) ≤ v3 then some (-1) else gd (inb v3 6) ((if (lg_cmp (s.2.1 (Rf (Rf v0 15) v3.toNatClampNeg) 0) v1) = 0 then some v3 else ltb (v3 + 1) fun x4 => k2 x4)))
set_option maxRecDepth 20000 in
set_option maxHeartbeats 2000000 in
theorem t_X4_buyerOf_l2b (v0 : Nat) (v1 : Int64) (v3 : Int32) (hv0 : okX4 v0 = true) (s : HS) {x : Int32} (k2 : Int32 → Option Int32) (hk2 : ∀ (a3 : Int32), k2 a3 = some x → Ev DDX4_buyerOf miX4_buyerOf NF (some (.int x)) NF (hp s) 2 NF [(0, .ref v0), (1, .long v1), (3, .int a3)] [] (hp s)) (hf : f_X4_buyerOf_l2b v0 v1 v3 k2 s = some x) : Ev DDX4_buyerOf miX4_buyerOf NF (some (.int x)) NF (hp s) 2 NF [(0, .ref v0), (1, .long v1), (3, .int v3)] [] (hp s) := by
  refine e_iload_n dX4_buyerOf_2 2 rfl rfl (pc2 := 3) rfl ?_
  refine e_aload_n dX4_buyerOf_3 0 rfl rfl (pc2 := 4) rfl ?_
  refine e_getI fl_X4_77 dX4_buyerOf_4 (okX4_o hv0) (by decide) (pc2 := 7) rfl ?_
  refine e_icmp_ge (tgt := 32) dX4_buyerOf_7 (by decide) (pc2 := 10) rfl (fun c1 => ?_) (fun c1 => ?_)
  · have hf := if_t c1 hf
    refine e_iconst (x := (-1)) dX4_buyerOf_32 (by decide) (pc2 := 33) rfl ?_
    cases hf
    exact e_iret rfl dX4_buyerOf_33
  · have hf := if_f c1 hf
    refine e_aload_n dX4_buyerOf_10 0 rfl rfl (pc2 := 11) rfl ?_
    refine e_getR (r := Rf v0 15) fl_X4_37 dX4_buyerOf_11 (okX4_o hv0) (okX4_R hv0) (isA_ne (okX4_buyer hv0)) (pc2 := 14) rfl ?_
    refine e_iload_n dX4_buyerOf_14 2 rfl rfl (pc2 := 15) rfl ?_
    obtain ⟨g2, hf⟩ := gd_some hf
    refine e_aald (r := Rf (Rf v0 15) v3.toNatClampNeg) dX4_buyerOf_15 (okX4_buyer hv0) (by decide) (inb_v g2) (Rs_na (q := s.2.2) (okX4_buyer hv0) (by decide)) (okX0_ne (okX4_buyer_el hv0 (inb_v g2))) (pc2 := 16) rfl ?_
    refine e_getL fl_X4_84 dX4_buyerOf_16 (okX0_o (okX4_buyer_el hv0 (inb_v g2))) rfl (pc2 := 19) rfl ?_
    refine e_lload_n dX4_buyerOf_19 1 rfl rfl (pc2 := 20) rfl ?_
    refine e_lcmp dX4_buyerOf_20 (pc2 := 21) rfl ?_
    refine e_if_ne (tgt := 26) dX4_buyerOf_21 (by decide) (pc2 := 24) rfl (fun c3 => ?_) (fun c3 => ?_)
    · have hf := if_f c3 hf
      obtain ⟨x4, ex4, hf⟩ := ltb_s hf
      refine e_iinc dX4_buyerOf_26 2 rfl (c9 := 1) (by decide) ex4.symm (by decide) (ls' := [(0, .ref v0), (1, .long v1), (3, .int x4)]) [1, 2, 0] rfl (pc2 := 29) rfl ?_
      refine e_goto (tgt := 2) dX4_buyerOf_29 (by decide) ?_
      exact hk2 x4 hf
    · have hf := if_t c3 hf
      refine e_iload_n dX4_buyerOf_24 2 rfl rfl (pc2 := 25) rfl ?_
      cases hf
      exact e_iret rfl dX4_buyerOf_25
def f_X4_buyerOf_l2 (v0 : Nat) (v1 : Int64) (s : HS) : Nat → Int32 → Option Int32
  | 0, _ => none
  | n + 1, v3 => f_X4_buyerOf_l2b v0 v1 v3 (f_X4_buyerOf_l2 v0 v1 s n)  s
set_option maxRecDepth 20000 in
set_option maxHeartbeats 2000000 in
theorem t_X4_buyerOf_l2 (v0 : Nat) (v1 : Int64) (hv0 : okX4 v0 = true) (s : HS) {x : Int32}  : ∀ (n : Nat) (v3 : Int32), f_X4_buyerOf_l2 v0 v1 s n v3 = some x → Ev DDX4_buyerOf miX4_buyerOf NF (some (.int x)) NF (hp s) 2 NF [(0, .ref v0), (1, .long v1), (3, .int v3)] [] (hp s) := by
  intro n
  induction n with
  | zero =>
    intro v3 hf
    have hf : none = some x := hf
    cases hf
  | succ n ih =>
    intro v3 hf
    exact t_X4_buyerOf_l2b v0 v1 v3 hv0 s _ ih  hf
def f_X4_buyerOf (p : Nat) (v1 : Int64) (s : HS) : Option Int32 :=
  f_X4_buyerOf_l2 p v1 s FU 0
set_option maxRecDepth 20000 in
set_option maxHeartbeats 2000000 in
theorem t_X4_buyerOf (p : Nat) (hp_ : okX4 p = true) (v1 : Int64) (s : HS) {x : Int32} (hf : f_X4_buyerOf p v1 s = some x) : Mt DDX4_buyerOf miX4_buyerOf [.ref p, .long v1] NF (hp s) (some (.int x)) NF (hp s) := by
  refine Mt.of (by decide +kernel) (Nat.le_refl _) (Nat.le_of_ble_eq_true rfl) ?_
  show Ev DDX4_buyerOf miX4_buyerOf NF (some (.int x)) NF (hp s) 0 NF [(0, .ref p), (1, .long v1)] [] (hp s)
  unfold f_X4_buyerOf at hf
  refine e_iconst (x := 0) dX4_buyerOf_0 (by decide) (pc2 := 1) rfl ?_
  refine e_istore_n dX4_buyerOf_1 rfl (by decide) rfl (ls' := [(0, .ref p), (1, .long v1), (3, .int 0)]) [1, 2, 0] rfl (pc2 := 2) rfl ?_
  refine t_X4_buyerOf_l2 p v1 hp_ s FU 0 hf
abbrev DDX4_farOf : Nat := 1
def f_X4_farOf (p : Nat) (v1 : Int32) (v2 : Int32) (s : HS) : Option Int32 :=
  gd (inb v1 6) (gd (inb (s.1 (Rf (Rf p 15) v1.toNatClampNeg) 2) 6) (some (iabs ((s.1 (Rf p 11) (s.1 (Rf (Rf p 15) v1.toNatClampNeg) 2).toNatClampNeg) - v2))))
set_option maxRecDepth 20000 in
set_option maxHeartbeats 2000000 in
theorem t_X4_farOf (p : Nat) (hp_ : okX4 p = true) (v1 : Int32) (v2 : Int32) (s : HS) {x : Int32} (hf : f_X4_farOf p v1 v2 s = some x) : Mt DDX4_farOf miX4_farOf [.ref p, .int v1, .int v2] NF (hp s) (some (.int x)) NF (hp s) := by
  refine Mt.of (by decide +kernel) (Nat.le_refl _) (Nat.le_of_ble_eq_true rfl) ?_
  show Ev DDX4_farOf miX4_farOf NF (some (.int x)) NF (hp s) 0 NF [(0, .ref p), (1, .int v1), (2, .int v2)] [] (hp s)
  unfold f_X4_farOf at hf
  refine e_aload_n dX4_farOf_0 0 rfl rfl (pc2 := 1) rfl ?_
  refine e_getR (r := Rf p 11) fl_X4_26 dX4_farOf_1 (okX4_o hp_) (okX4_R hp_) (isA_ne (okX4_yards hp_)) (pc2 := 4) rfl ?_
  refine e_aload_n dX4_farOf_4 0 rfl rfl (pc2 := 5) rfl ?_
  refine e_getR (r := Rf p 15) fl_X4_37 dX4_farOf_5 (okX4_o hp_) (okX4_R hp_) (isA_ne (okX4_buyer hp_)) (pc2 := 8) rfl ?_
  refine e_iload_n dX4_farOf_8 1 rfl rfl (pc2 := 9) rfl ?_
  obtain ⟨g1, hf⟩ := gd_some hf
  refine e_aald (r := Rf (Rf p 15) v1.toNatClampNeg) dX4_farOf_9 (okX4_buyer hp_) (by decide) (inb_v g1) (Rs_na (q := s.2.2) (okX4_buyer hp_) (by decide)) (okX0_ne (okX4_buyer_el hp_ (inb_v g1))) (pc2 := 10) rfl ?_
  refine e_getI fl_X4_85 dX4_farOf_10 (okX0_o (okX4_buyer_el hp_ (inb_v g1))) (by decide) (pc2 := 13) rfl ?_
  obtain ⟨g2, hf⟩ := gd_some hf
  refine e_iald dX4_farOf_13 (okX4_yards hp_) (inb_v g2) (pc2 := 14) rfl ?_
  refine e_iload_n dX4_farOf_14 2 rfl rfl (pc2 := 15) rfl ?_
  refine e_isub dX4_farOf_15 (pc2 := 16) rfl ?_
  refine e_mabs dX4_farOf_16 mm_X4_88 (by decide) nn0 (by first | exact Nat.le_of_ble_eq_true rfl | simp [rva_cat, vc_i, vc_r, vc_l, vc_n]) (pc2 := 19) rfl ?_
  cases hf
  exact e_iret rfl dX4_farOf_19
abbrev DDX4_wayOf : Nat := 2
def f_X4_wayOf (p : Nat) (v1 : Int32) (v2 : Int32) (s : HS) : Option Int32 :=
  bnd (f_X4_farOf p v1 v2 s) fun y1 => some ((y1 * (s.1 p 6)) / 10)
set_option maxRecDepth 20000 in
set_option maxHeartbeats 2000000 in
theorem t_X4_wayOf (p : Nat) (hp_ : okX4 p = true) (v1 : Int32) (v2 : Int32) (s : HS) {x : Int32} (hf : f_X4_wayOf p v1 v2 s = some x) : Mt DDX4_wayOf miX4_wayOf [.ref p, .int v1, .int v2] NF (hp s) (some (.int x)) NF (hp s) := by
  refine Mt.of (by decide +kernel) (Nat.le_refl _) (Nat.le_of_ble_eq_true rfl) ?_
  show Ev DDX4_wayOf miX4_wayOf NF (some (.int x)) NF (hp s) 0 NF [(0, .ref p), (1, .int v1), (2, .int v2)] [] (hp s)
  unfold f_X4_wayOf at hf
  refine e_aload_n dX4_wayOf_0 0 rfl rfl (pc2 := 1) rfl ?_
  refine e_iload_n dX4_wayOf_1 1 rfl rfl (pc2 := 2) rfl ?_
  refine e_iload_n dX4_wayOf_2 2 rfl rfl (pc2 := 3) rfl ?_
  obtain ⟨y1, hy1, hf⟩ := bnd_s hf
  refine e_callVs (t_X4_farOf p hp_ v1 v2 s hy1) dX4_wayOf_3 cv_X4_94 rfl (okX4_o hp_) rc_4 (by decide) (by first | exact Nat.le_of_ble_eq_true rfl | simp [rva_cat, vc_i, vc_r, vc_l, vc_n]) nn0 rfl (pc2 := 6) rfl ?_
  refine e_aload_n dX4_wayOf_6 0 rfl rfl (pc2 := 7) rfl ?_
  refine e_getI fl_X4_65 dX4_wayOf_7 (okX4_o hp_) (by decide) (pc2 := 10) rfl ?_
  refine e_imul dX4_wayOf_10 (pc2 := 11) rfl ?_
  refine e_bipush (x := 10) dX4_wayOf_11 (by decide) (pc2 := 13) rfl ?_
  refine e_idiv dX4_wayOf_13 (by decide) (pc2 := 14) rfl ?_
  cases hf
  exact e_iret rfl dX4_wayOf_14
abbrev DDX4_goesAt : Nat := 1
def f_X4_goesAt (p : Nat) (v1 : Int32) (v2 : Int32) (s : HS) : Int32 :=
  imax 0 (imin v2 ((s.1 p 0) - v1))
set_option maxRecDepth 20000 in
set_option maxHeartbeats 2000000 in
theorem t_X4_goesAt (p : Nat) (hp_ : okX4 p = true) (v1 : Int32) (v2 : Int32) (s : HS) {x : Int32} (hf : f_X4_goesAt p v1 v2 s = x) : Mt DDX4_goesAt miX4_goesAt [.ref p, .int v1, .int v2] NF (hp s) (some (.int x)) NF (hp s) := by
  refine Mt.of (by decide +kernel) (Nat.le_refl _) (Nat.le_of_ble_eq_true rfl) ?_
  show Ev DDX4_goesAt miX4_goesAt NF (some (.int x)) NF (hp s) 0 NF [(0, .ref p), (1, .int v1), (2, .int v2)] [] (hp s)
  unfold f_X4_goesAt at hf
  refine e_iconst (x := 0) dX4_goesAt_0 (by decide) (pc2 := 1) rfl ?_
  refine e_iload_n dX4_goesAt_1 2 rfl rfl (pc2 := 2) rfl ?_
  refine e_aload_n dX4_goesAt_2 0 rfl rfl (pc2 := 3) rfl ?_
  refine e_getI fl_X4_46 dX4_goesAt_3 (okX4_o hp_) (by decide) (pc2 := 6) rfl ?_
  refine e_iload_n dX4_goesAt_6 1 rfl rfl (pc2 := 7) rfl ?_
  refine e_isub dX4_goesAt_7 (pc2 := 8) rfl ?_
  refine e_mmin dX4_goesAt_8 mm_X4_98 (by decide) nn0 (by first | exact Nat.le_of_ble_eq_true rfl | simp [rva_cat, vc_i, vc_r, vc_l, vc_n]) (pc2 := 11) rfl ?_
  refine e_mmax dX4_goesAt_11 mm_X4_101 (by decide) nn0 (by first | exact Nat.le_of_ble_eq_true rfl | simp [rva_cat, vc_i, vc_r, vc_l, vc_n]) (pc2 := 14) rfl ?_
  cases hf
  exact e_iret rfl dX4_goesAt_14
abbrev DDX4_secsFor : Nat := 1
def f_X4_secsFor_l4b (v0 : Nat) (v1 : Int32) (v2 : Int32) (v3 : Int32) (k4 : Int32 → Int32 → Option Int32) (s : HS) : Option Int32 :=
  gd (inb v1 6) ((if (s.1 (Rf (Rf v0 15) v1.toNatClampNeg) 6) ≤ v3 then some v2 else gd (inb v1 6) (gd (inb v3 3) (gd (inb (s.1 (Rf (Rf (Rf v0 15) v1.toNatClampNeg) 5) v3.toNatClampNeg) 5) (ltb (v2 + (s.1 (Rf (Rf v0 13) (s.1 (Rf (Rf (Rf v0 15) v1.toNatClampNeg) 5) v3.toNatClampNeg).toNatClampNeg) 2)) fun x6 => ltb (v3 + 1) fun x7 => k4 x6 x7)))))
set_option maxRecDepth 20000 in
set_option maxHeartbeats 2000000 in
theorem t_X4_secsFor_l4b (v0 : Nat) (v1 : Int32) (v2 : Int32) (v3 : Int32) (hv0 : okX4 v0 = true) (s : HS) {x : Int32} (k4 : Int32 → Int32 → Option Int32) (hk4 : ∀ (a2 : Int32) (a3 : Int32), k4 a2 a3 = some x → Ev DDX4_secsFor miX4_secsFor NF (some (.int x)) NF (hp s) 4 NF [(0, .ref v0), (1, .int v1), (2, .int a2), (3, .int a3)] [] (hp s)) (hf : f_X4_secsFor_l4b v0 v1 v2 v3 k4 s = some x) : Ev DDX4_secsFor miX4_secsFor NF (some (.int x)) NF (hp s) 4 NF [(0, .ref v0), (1, .int v1), (2, .int v2), (3, .int v3)] [] (hp s) := by
  refine e_iload_n dX4_secsFor_4 3 rfl rfl (pc2 := 5) rfl ?_
  refine e_aload_n dX4_secsFor_5 0 rfl rfl (pc2 := 6) rfl ?_
  refine e_getR (r := Rf v0 15) fl_X4_37 dX4_secsFor_6 (okX4_o hv0) (okX4_R hv0) (isA_ne (okX4_buyer hv0)) (pc2 := 9) rfl ?_
  refine e_iload_n dX4_secsFor_9 1 rfl rfl (pc2 := 10) rfl ?_
  obtain ⟨g1, hf⟩ := gd_some hf
  refine e_aald (r := Rf (Rf v0 15) v1.toNatClampNeg) dX4_secsFor_10 (okX4_buyer hv0) (by decide) (inb_v g1) (Rs_na (q := s.2.2) (okX4_buyer hv0) (by decide)) (okX0_ne (okX4_buyer_el hv0 (inb_v g1))) (pc2 := 11) rfl ?_
  refine e_getI fl_X4_104 dX4_secsFor_11 (okX0_o (okX4_buyer_el hv0 (inb_v g1))) (by decide) (pc2 := 14) rfl ?_
  refine e_icmp_ge (tgt := 45) dX4_secsFor_14 (by decide) (pc2 := 17) rfl (fun c2 => ?_) (fun c2 => ?_)
  · have hf := if_t c2 hf
    refine e_iload_n dX4_secsFor_45 2 rfl rfl (pc2 := 46) rfl ?_
    cases hf
    exact e_iret rfl dX4_secsFor_46
  · have hf := if_f c2 hf
    refine e_iload_n dX4_secsFor_17 2 rfl rfl (pc2 := 18) rfl ?_
    refine e_aload_n dX4_secsFor_18 0 rfl rfl (pc2 := 19) rfl ?_
    refine e_getR (r := Rf v0 13) fl_X4_31 dX4_secsFor_19 (okX4_o hv0) (okX4_R hv0) (isA_ne (okX4_thing hv0)) (pc2 := 22) rfl ?_
    refine e_aload_n dX4_secsFor_22 0 rfl rfl (pc2 := 23) rfl ?_
    refine e_getR (r := Rf v0 15) fl_X4_37 dX4_secsFor_23 (okX4_o hv0) (okX4_R hv0) (isA_ne (okX4_buyer hv0)) (pc2 := 26) rfl ?_
    refine e_iload_n dX4_secsFor_26 1 rfl rfl (pc2 := 27) rfl ?_
    obtain ⟨g3, hf⟩ := gd_some hf
    refine e_aald (r := Rf (Rf v0 15) v1.toNatClampNeg) dX4_secsFor_27 (okX4_buyer hv0) (by decide) (inb_v g3) (Rs_na (q := s.2.2) (okX4_buyer hv0) (by decide)) (okX0_ne (okX4_buyer_el hv0 (inb_v g3))) (pc2 := 28) rfl ?_
    refine e_getR (r := Rf (Rf (Rf v0 15) v1.toNatClampNeg) 5) fl_X4_107 dX4_secsFor_28 (okX0_o (okX4_buyer_el hv0 (inb_v g3))) (okX0_R (okX4_buyer_el hv0 (inb_v g3))) (isA_ne (okX0_wants (okX4_buyer_el hv0 (inb_v g3)))) (pc2 := 31) rfl ?_
    refine e_iload_n dX4_secsFor_31 3 rfl rfl (pc2 := 32) rfl ?_
    obtain ⟨g4, hf⟩ := gd_some hf
    refine e_iald dX4_secsFor_32 (okX0_wants (okX4_buyer_el hv0 (inb_v g3))) (inb_v g4) (pc2 := 33) rfl ?_
    obtain ⟨g5, hf⟩ := gd_some hf
    refine e_aald (r := Rf (Rf v0 13) (s.1 (Rf (Rf (Rf v0 15) v1.toNatClampNeg) 5) v3.toNatClampNeg).toNatClampNeg) dX4_secsFor_33 (okX4_thing hv0) (by decide) (inb_v g5) (Rs_na (q := s.2.2) (okX4_thing hv0) (by decide)) (okX9_ne (okX4_thing_el hv0 (inb_v g5))) (pc2 := 34) rfl ?_
    refine e_getI fl_X4_110 dX4_secsFor_34 (okX9_o (okX4_thing_el hv0 (inb_v g5))) (by decide) (pc2 := 37) rfl ?_
    refine e_iadd dX4_secsFor_37 (pc2 := 38) rfl ?_
    obtain ⟨x6, ex6, hf⟩ := ltb_s hf
    refine e_istore_n dX4_secsFor_38 rfl (by decide) ex6.symm (ls' := [(0, .ref v0), (1, .int v1), (2, .int x6), (3, .int v3)]) [1, 2, 0, 3] rfl (pc2 := 39) rfl ?_
    obtain ⟨x7, ex7, hf⟩ := ltb_s hf
    refine e_iinc dX4_secsFor_39 3 rfl (c9 := 1) (by decide) ex7.symm (by decide) (ls' := [(0, .ref v0), (1, .int v1), (2, .int x6), (3, .int x7)]) [1, 2, 3, 0] rfl (pc2 := 42) rfl ?_
    refine e_goto (tgt := 4) dX4_secsFor_42 (by decide) ?_
    exact hk4 x6 x7 hf
def f_X4_secsFor_l4 (v0 : Nat) (v1 : Int32) (s : HS) : Nat → Int32 → Int32 → Option Int32
  | 0, _, _ => none
  | n + 1, v2, v3 => f_X4_secsFor_l4b v0 v1 v2 v3 (f_X4_secsFor_l4 v0 v1 s n)  s
set_option maxRecDepth 20000 in
set_option maxHeartbeats 2000000 in
theorem t_X4_secsFor_l4 (v0 : Nat) (v1 : Int32) (hv0 : okX4 v0 = true) (s : HS) {x : Int32}  : ∀ (n : Nat) (v2 : Int32) (v3 : Int32), f_X4_secsFor_l4 v0 v1 s n v2 v3 = some x → Ev DDX4_secsFor miX4_secsFor NF (some (.int x)) NF (hp s) 4 NF [(0, .ref v0), (1, .int v1), (2, .int v2), (3, .int v3)] [] (hp s) := by
  intro n
  induction n with
  | zero =>
    intro v2 v3 hf
    have hf : none = some x := hf
    cases hf
  | succ n ih =>
    intro v2 v3 hf
    exact t_X4_secsFor_l4b v0 v1 v2 v3 hv0 s _ ih  hf
def f_X4_secsFor (p : Nat) (v1 : Int32) (s : HS) : Option Int32 :=
  f_X4_secsFor_l4 p v1 s FU 0 0
set_option maxRecDepth 20000 in
set_option maxHeartbeats 2000000 in
theorem t_X4_secsFor (p : Nat) (hp_ : okX4 p = true) (v1 : Int32) (s : HS) {x : Int32} (hf : f_X4_secsFor p v1 s = some x) : Mt DDX4_secsFor miX4_secsFor [.ref p, .int v1] NF (hp s) (some (.int x)) NF (hp s) := by
  refine Mt.of (by decide +kernel) (Nat.le_refl _) (Nat.le_of_ble_eq_true rfl) ?_
  show Ev DDX4_secsFor miX4_secsFor NF (some (.int x)) NF (hp s) 0 NF [(0, .ref p), (1, .int v1)] [] (hp s)
  unfold f_X4_secsFor at hf
  refine e_iconst (x := 0) dX4_secsFor_0 (by decide) (pc2 := 1) rfl ?_
  refine e_istore_n dX4_secsFor_1 rfl (by decide) rfl (ls' := [(0, .ref p), (1, .int v1), (2, .int 0)]) [1, 2, 0] rfl (pc2 := 2) rfl ?_
  refine e_iconst (x := 0) dX4_secsFor_2 (by decide) (pc2 := 3) rfl ?_
  refine e_istore_n dX4_secsFor_3 rfl (by decide) rfl (ls' := [(0, .ref p), (1, .int v1), (2, .int 0), (3, .int 0)]) [1, 2, 3, 0] rfl (pc2 := 4) rfl ?_
  refine t_X4_secsFor_l4 p v1 hp_ s FU 0 0 hf
abbrev DDX4_priceFor : Nat := 1
def f_X4_priceFor_l4b (v0 : Nat) (v1 : Int32) (v2 : Int32) (v3 : Int32) (k4 : Int32 → Int32 → Option Int32) (s : HS) : Option Int32 :=
  gd (inb v1 6) ((if (s.1 (Rf (Rf v0 15) v1.toNatClampNeg) 6) ≤ v3 then some v2 else gd (inb v1 6) (gd (inb v3 3) (gd (inb (s.1 (Rf (Rf (Rf v0 15) v1.toNatClampNeg) 5) v3.toNatClampNeg) 5) (ltb (v2 + (s.1 (Rf (Rf v0 13) (s.1 (Rf (Rf (Rf v0 15) v1.toNatClampNeg) 5) v3.toNatClampNeg).toNatClampNeg) 3)) fun x6 => ltb (v3 + 1) fun x7 => k4 x6 x7)))))
set_option maxRecDepth 20000 in
set_option maxHeartbeats 2000000 in
theorem t_X4_priceFor_l4b (v0 : Nat) (v1 : Int32) (v2 : Int32) (v3 : Int32) (hv0 : okX4 v0 = true) (s : HS) {x : Int32} (k4 : Int32 → Int32 → Option Int32) (hk4 : ∀ (a2 : Int32) (a3 : Int32), k4 a2 a3 = some x → Ev DDX4_priceFor miX4_priceFor NF (some (.int x)) NF (hp s) 4 NF [(0, .ref v0), (1, .int v1), (2, .int a2), (3, .int a3)] [] (hp s)) (hf : f_X4_priceFor_l4b v0 v1 v2 v3 k4 s = some x) : Ev DDX4_priceFor miX4_priceFor NF (some (.int x)) NF (hp s) 4 NF [(0, .ref v0), (1, .int v1), (2, .int v2), (3, .int v3)] [] (hp s) := by
  refine e_iload_n dX4_priceFor_4 3 rfl rfl (pc2 := 5) rfl ?_
  refine e_aload_n dX4_priceFor_5 0 rfl rfl (pc2 := 6) rfl ?_
  refine e_getR (r := Rf v0 15) fl_X4_37 dX4_priceFor_6 (okX4_o hv0) (okX4_R hv0) (isA_ne (okX4_buyer hv0)) (pc2 := 9) rfl ?_
  refine e_iload_n dX4_priceFor_9 1 rfl rfl (pc2 := 10) rfl ?_
  obtain ⟨g1, hf⟩ := gd_some hf
  refine e_aald (r := Rf (Rf v0 15) v1.toNatClampNeg) dX4_priceFor_10 (okX4_buyer hv0) (by decide) (inb_v g1) (Rs_na (q := s.2.2) (okX4_buyer hv0) (by decide)) (okX0_ne (okX4_buyer_el hv0 (inb_v g1))) (pc2 := 11) rfl ?_
  refine e_getI fl_X4_104 dX4_priceFor_11 (okX0_o (okX4_buyer_el hv0 (inb_v g1))) (by decide) (pc2 := 14) rfl ?_
  refine e_icmp_ge (tgt := 45) dX4_priceFor_14 (by decide) (pc2 := 17) rfl (fun c2 => ?_) (fun c2 => ?_)
  · have hf := if_t c2 hf
    refine e_iload_n dX4_priceFor_45 2 rfl rfl (pc2 := 46) rfl ?_
    cases hf
    exact e_iret rfl dX4_priceFor_46
  · have hf := if_f c2 hf
    refine e_iload_n dX4_priceFor_17 2 rfl rfl (pc2 := 18) rfl ?_
    refine e_aload_n dX4_priceFor_18 0 rfl rfl (pc2 := 19) rfl ?_
    refine e_getR (r := Rf v0 13) fl_X4_31 dX4_priceFor_19 (okX4_o hv0) (okX4_R hv0) (isA_ne (okX4_thing hv0)) (pc2 := 22) rfl ?_
    refine e_aload_n dX4_priceFor_22 0 rfl rfl (pc2 := 23) rfl ?_
    refine e_getR (r := Rf v0 15) fl_X4_37 dX4_priceFor_23 (okX4_o hv0) (okX4_R hv0) (isA_ne (okX4_buyer hv0)) (pc2 := 26) rfl ?_
    refine e_iload_n dX4_priceFor_26 1 rfl rfl (pc2 := 27) rfl ?_
    obtain ⟨g3, hf⟩ := gd_some hf
    refine e_aald (r := Rf (Rf v0 15) v1.toNatClampNeg) dX4_priceFor_27 (okX4_buyer hv0) (by decide) (inb_v g3) (Rs_na (q := s.2.2) (okX4_buyer hv0) (by decide)) (okX0_ne (okX4_buyer_el hv0 (inb_v g3))) (pc2 := 28) rfl ?_
    refine e_getR (r := Rf (Rf (Rf v0 15) v1.toNatClampNeg) 5) fl_X4_107 dX4_priceFor_28 (okX0_o (okX4_buyer_el hv0 (inb_v g3))) (okX0_R (okX4_buyer_el hv0 (inb_v g3))) (isA_ne (okX0_wants (okX4_buyer_el hv0 (inb_v g3)))) (pc2 := 31) rfl ?_
    refine e_iload_n dX4_priceFor_31 3 rfl rfl (pc2 := 32) rfl ?_
    obtain ⟨g4, hf⟩ := gd_some hf
    refine e_iald dX4_priceFor_32 (okX0_wants (okX4_buyer_el hv0 (inb_v g3))) (inb_v g4) (pc2 := 33) rfl ?_
    obtain ⟨g5, hf⟩ := gd_some hf
    refine e_aald (r := Rf (Rf v0 13) (s.1 (Rf (Rf (Rf v0 15) v1.toNatClampNeg) 5) v3.toNatClampNeg).toNatClampNeg) dX4_priceFor_33 (okX4_thing hv0) (by decide) (inb_v g5) (Rs_na (q := s.2.2) (okX4_thing hv0) (by decide)) (okX9_ne (okX4_thing_el hv0 (inb_v g5))) (pc2 := 34) rfl ?_
    refine e_getI fl_X4_113 dX4_priceFor_34 (okX9_o (okX4_thing_el hv0 (inb_v g5))) (by decide) (pc2 := 37) rfl ?_
    refine e_iadd dX4_priceFor_37 (pc2 := 38) rfl ?_
    obtain ⟨x6, ex6, hf⟩ := ltb_s hf
    refine e_istore_n dX4_priceFor_38 rfl (by decide) ex6.symm (ls' := [(0, .ref v0), (1, .int v1), (2, .int x6), (3, .int v3)]) [1, 2, 0, 3] rfl (pc2 := 39) rfl ?_
    obtain ⟨x7, ex7, hf⟩ := ltb_s hf
    refine e_iinc dX4_priceFor_39 3 rfl (c9 := 1) (by decide) ex7.symm (by decide) (ls' := [(0, .ref v0), (1, .int v1), (2, .int x6), (3, .int x7)]) [1, 2, 3, 0] rfl (pc2 := 42) rfl ?_
    refine e_goto (tgt := 4) dX4_priceFor_42 (by decide) ?_
    exact hk4 x6 x7 hf
def f_X4_priceFor_l4 (v0 : Nat) (v1 : Int32) (s : HS) : Nat → Int32 → Int32 → Option Int32
  | 0, _, _ => none
  | n + 1, v2, v3 => f_X4_priceFor_l4b v0 v1 v2 v3 (f_X4_priceFor_l4 v0 v1 s n)  s
set_option maxRecDepth 20000 in
set_option maxHeartbeats 2000000 in
theorem t_X4_priceFor_l4 (v0 : Nat) (v1 : Int32) (hv0 : okX4 v0 = true) (s : HS) {x : Int32}  : ∀ (n : Nat) (v2 : Int32) (v3 : Int32), f_X4_priceFor_l4 v0 v1 s n v2 v3 = some x → Ev DDX4_priceFor miX4_priceFor NF (some (.int x)) NF (hp s) 4 NF [(0, .ref v0), (1, .int v1), (2, .int v2), (3, .int v3)] [] (hp s) := by
  intro n
  induction n with
  | zero =>
    intro v2 v3 hf
    have hf : none = some x := hf
    cases hf
  | succ n ih =>
    intro v2 v3 hf
    exact t_X4_priceFor_l4b v0 v1 v2 v3 hv0 s _ ih  hf
def f_X4_priceFor (p : Nat) (v1 : Int32) (s : HS) : Option Int32 :=
  f_X4_priceFor_l4 p v1 s FU 0 0
set_option maxRecDepth 20000 in
set_option maxHeartbeats 2000000 in
theorem t_X4_priceFor (p : Nat) (hp_ : okX4 p = true) (v1 : Int32) (s : HS) {x : Int32} (hf : f_X4_priceFor p v1 s = some x) : Mt DDX4_priceFor miX4_priceFor [.ref p, .int v1] NF (hp s) (some (.int x)) NF (hp s) := by
  refine Mt.of (by decide +kernel) (Nat.le_refl _) (Nat.le_of_ble_eq_true rfl) ?_
  show Ev DDX4_priceFor miX4_priceFor NF (some (.int x)) NF (hp s) 0 NF [(0, .ref p), (1, .int v1)] [] (hp s)
  unfold f_X4_priceFor at hf
  refine e_iconst (x := 0) dX4_priceFor_0 (by decide) (pc2 := 1) rfl ?_
  refine e_istore_n dX4_priceFor_1 rfl (by decide) rfl (ls' := [(0, .ref p), (1, .int v1), (2, .int 0)]) [1, 2, 0] rfl (pc2 := 2) rfl ?_
  refine e_iconst (x := 0) dX4_priceFor_2 (by decide) (pc2 := 3) rfl ?_
  refine e_istore_n dX4_priceFor_3 rfl (by decide) rfl (ls' := [(0, .ref p), (1, .int v1), (2, .int 0), (3, .int 0)]) [1, 2, 3, 0] rfl (pc2 := 4) rfl ?_
  refine t_X4_priceFor_l4 p v1 hp_ s FU 0 0 hf
abbrev DDX8_fail : Nat := 1
def f_X8_fail (v1 : Int32) (s : HS) : Option HS :=
  (if (s.1 36 9) = 0 then ltb (sI s 36 9 (v1 + (16 * (s.1 36 2)))) fun s4 => ltb (sI s4 36 4 4) fun s5 => ltb (sQ5 s5 0) fun s6 => some s6 else ltb (sI s 36 4 4) fun s2 => ltb (sQ5 s2 0) fun s3 => some s3)
set_option maxRecDepth 20000 in
set_option maxHeartbeats 2000000 in
theorem t_X8_fail (v1 : Int32) (s : HS) {t : HS} (hf : f_X8_fail v1 s = some t) : Mt DDX8_fail miX8_fail [.ref 36, .int v1] NF (hp s) none NF (hp t) := by
  refine Mt.of (by decide +kernel) (Nat.le_refl _) (Nat.le_of_ble_eq_true rfl) ?_
  show Ev DDX8_fail miX8_fail NF none NF (hp t) 0 NF [(0, .ref 36), (1, .int v1)] [] (hp s)
  unfold f_X8_fail at hf
  refine e_aload_n dX8_fail_0 0 rfl rfl (pc2 := 1) rfl ?_
  refine e_getI fl_X8_21 dX8_fail_1 so_36 (by decide) (pc2 := 4) rfl ?_
  refine e_if_ne (tgt := 20) dX8_fail_4 (by decide) (pc2 := 7) rfl (fun c1 => ?_) (fun c1 => ?_)
  · have hf := if_f c1 hf
    refine e_aload_n dX8_fail_20 0 rfl rfl (pc2 := 21) rfl ?_
    refine e_iconst (x := 4) dX8_fail_21 (by decide) (pc2 := 22) rfl ?_
    obtain ⟨s2, es2, hf⟩ := ltb_s hf
    refine e_putI fl_X8_30 dX8_fail_22 so_36 fn_8_4 (h2 := hp s2) (by rw [es2]; rfl) (pc2 := 25) rfl ?_
    refine e_aload_n dX8_fail_25 0 rfl rfl (pc2 := 26) rfl ?_
    refine e_null dX8_fail_26 (pc2 := 27) rfl ?_
    obtain ⟨s3, es3, hf⟩ := ltb_s hf
    refine e_putQ (w := 0) fl_X8_36 dX8_fail_27 so_36 fn_8_8 fr_8_8 (h2 := hp s3) (by rw [es3]; exact hp_q5) (pc2 := 30) rfl ?_
    cases hf
    exact e_vret rfl dX8_fail_30
  · have hf := if_t c1 hf
    refine e_aload_n dX8_fail_7 0 rfl rfl (pc2 := 8) rfl ?_
    refine e_iload_n dX8_fail_8 1 rfl rfl (pc2 := 9) rfl ?_
    refine e_bipush (x := 16) dX8_fail_9 (by decide) (pc2 := 11) rfl ?_
    refine e_aload_n dX8_fail_11 0 rfl rfl (pc2 := 12) rfl ?_
    refine e_getI fl_X8_33 dX8_fail_12 so_36 (by decide) (pc2 := 15) rfl ?_
    refine e_imul dX8_fail_15 (pc2 := 16) rfl ?_
    refine e_iadd dX8_fail_16 (pc2 := 17) rfl ?_
    obtain ⟨s4, es4, hf⟩ := ltb_s hf
    refine e_putI fl_X8_21 dX8_fail_17 so_36 fn_8_9 (h2 := hp s4) (by rw [es4]; rfl) (pc2 := 20) rfl ?_
    refine e_aload_n dX8_fail_20 0 rfl rfl (pc2 := 21) rfl ?_
    refine e_iconst (x := 4) dX8_fail_21 (by decide) (pc2 := 22) rfl ?_
    obtain ⟨s5, es5, hf⟩ := ltb_s hf
    refine e_putI fl_X8_30 dX8_fail_22 so_36 fn_8_4 (h2 := hp s5) (by rw [es5]; rfl) (pc2 := 25) rfl ?_
    refine e_aload_n dX8_fail_25 0 rfl rfl (pc2 := 26) rfl ?_
    refine e_null dX8_fail_26 (pc2 := 27) rfl ?_
    obtain ⟨s6, es6, hf⟩ := ltb_s hf
    refine e_putQ (w := 0) fl_X8_36 dX8_fail_27 so_36 fn_8_8 fr_8_8 (h2 := hp s6) (by rw [es6]; exact hp_q5) (pc2 := 30) rfl ?_
    cases hf
    exact e_vret rfl dX8_fail_30
abbrev DDX8_isName : Nat := 1
def f_X8_isName  (s : HS) : Option Int32 :=
  (if (s.1 36 4) = 1 then gd (wob (s.2.2.2.2.2.2)) ((if (s.2.2.2.2.2.2) = 0 then some 1 else gd (wob (s.2.2.2.2.2.2)) (gd (woc (s.2.2.2.2.2.2)) ((if (onceL.getD (s.2.2.2.2.2.2 - 1000) 0) = (-1) then some 1 else some 0))))) else some 0)
set_option maxRecDepth 20000 in
set_option maxHeartbeats 2000000 in
theorem t_X8_isName  (s : HS) {x : Int32} (hf : f_X8_isName s = some x) : Mt DDX8_isName miX8_isName [.ref 36] NF (hp s) (some (.int x)) NF (hp s) := by
  refine Mt.of (by decide +kernel) (Nat.le_refl _) (Nat.le_of_ble_eq_true rfl) ?_
  show Ev DDX8_isName miX8_isName NF (some (.int x)) NF (hp s) 0 NF [(0, .ref 36)] [] (hp s)
  unfold f_X8_isName at hf
  refine e_aload_n dX8_isName_0 0 rfl rfl (pc2 := 1) rfl ?_
  refine e_getI fl_X8_30 dX8_isName_1 so_36 (by decide) (pc2 := 4) rfl ?_
  refine e_iconst (x := 1) dX8_isName_4 (by decide) (pc2 := 5) rfl ?_
  refine e_icmp_ne (tgt := 30) dX8_isName_5 (by decide) (pc2 := 8) rfl (fun c1 => ?_) (fun c1 => ?_)
  · have hf := if_f c1 hf
    refine e_iconst (x := 0) dX8_isName_30 (by decide) (pc2 := 31) rfl ?_
    cases hf
    exact e_zret (by decide) rfl dX8_isName_31
  · have hf := if_t c1 hf
    refine e_aload_n dX8_isName_8 0 rfl rfl (pc2 := 9) rfl ?_
    obtain ⟨g2, hf⟩ := gd_some hf
    refine e_getQ (w := s.2.2.2.2.2.2) fl_X8_36 dX8_isName_9 so_36 rfl (pc2 := 12) rfl ?_
    refine e_ifnullQ (tgt := 26) dX8_isName_12 (by decide) (w := s.2.2.2.2.2.2) (pc2 := 15) rfl (fun c3 => ?_) (fun c3 => ?_)
    · have hf := if_t c3 hf
      refine e_iconst (x := 1) dX8_isName_26 (by decide) (pc2 := 27) rfl ?_
      refine e_goto (tgt := 31) dX8_isName_27 (by decide) ?_
      cases hf
      exact e_zret (by decide) rfl dX8_isName_31
    · have hf := if_f c3 hf
      refine e_aload_n dX8_isName_15 0 rfl rfl (pc2 := 16) rfl ?_
      obtain ⟨g4, hf⟩ := gd_some hf
      refine e_getQ (w := s.2.2.2.2.2.2) fl_X8_36 dX8_isName_16 so_36 rfl (pc2 := 19) rfl ?_
      obtain ⟨g5, hf⟩ := gd_some hf
      rw [rva_w g5]
      refine e_getEo (woc_lt g5) dX8_isName_19 eo_X8_74 (pc2 := 22) rfl ?_
      refine e_iconst (x := (-1)) dX8_isName_22 (by decide) (pc2 := 23) rfl ?_
      refine e_icmp_ne (tgt := 30) dX8_isName_23 (by decide) (pc2 := 26) rfl (fun c6 => ?_) (fun c6 => ?_)
      · have hf := if_f c6 hf
        refine e_iconst (x := 0) dX8_isName_30 (by decide) (pc2 := 31) rfl ?_
        cases hf
        exact e_zret (by decide) rfl dX8_isName_31
      · have hf := if_t c6 hf
        refine e_iconst (x := 1) dX8_isName_26 (by decide) (pc2 := 27) rfl ?_
        refine e_goto (tgt := 31) dX8_isName_27 (by decide) ?_
        cases hf
        exact e_zret (by decide) rfl dX8_isName_31
abbrev DDX6_layOut : Nat := 1
def f_X6_layOut (v1 : Nat) (v2 : Nat) (s : HS) : Option HS :=
  ltb (sQ3 s v1) fun s1 => ltb (sQ4 s1 v2) fun s2 => ltb (sI s2 73 2 0) fun s3 => ltb (sI s3 73 3 0) fun s4 => ltb (sI s4 73 4 (-1)) fun s5 => ltb (sI s5 73 5 (-1)) fun s6 => ltb (sI s6 73 6 0) fun s7 => ltb (sI s7 73 7 0) fun s8 => some s8
set_option maxRecDepth 20000 in
set_option maxHeartbeats 2000000 in
theorem t_X6_layOut (v1 : Nat) (hv1 : okX4 v1 = true) (v2 : Nat) (hv2 : okX7 v2 = true) (s : HS) {t : HS} (hf : f_X6_layOut v1 v2 s = some t) : Mt DDX6_layOut miX6_layOut [.ref 73, .ref v1, .ref v2] NF (hp s) none NF (hp t) := by
  refine Mt.of (by decide +kernel) (Nat.le_refl _) (Nat.le_of_ble_eq_true rfl) ?_
  show Ev DDX6_layOut miX6_layOut NF none NF (hp t) 0 NF [(0, .ref 73), (1, .ref v1), (2, .ref v2)] [] (hp s)
  unfold f_X6_layOut at hf
  refine e_aload_n dX6_layOut_0 0 rfl rfl (pc2 := 1) rfl ?_
  refine e_aload_n dX6_layOut_1 1 rfl rfl (pc2 := 2) rfl ?_
  obtain ⟨s1, es1, hf⟩ := ltb_s hf
  refine e_putR fl_X6_33 dX6_layOut_2 so_73 fn_6_0 fr_6_0 (okX4_ne hv1) (h2 := hp s1) (by rw [es1]; exact hp_q3) (pc2 := 5) rfl ?_
  refine e_aload_n dX6_layOut_5 0 rfl rfl (pc2 := 6) rfl ?_
  refine e_aload_n dX6_layOut_6 2 rfl rfl (pc2 := 7) rfl ?_
  obtain ⟨s2, es2, hf⟩ := ltb_s hf
  refine e_putR fl_X6_37 dX6_layOut_7 so_73 fn_6_1 fr_6_1 (okX7_ne hv2) (h2 := hp s2) (by rw [es2]; exact hp_q4) (pc2 := 10) rfl ?_
  refine e_aload_n dX6_layOut_10 0 rfl rfl (pc2 := 11) rfl ?_
  refine e_iconst (x := 0) dX6_layOut_11 (by decide) (pc2 := 12) rfl ?_
  obtain ⟨s3, es3, hf⟩ := ltb_s hf
  refine e_putI fl_X6_41 dX6_layOut_12 so_73 fn_6_2 (h2 := hp s3) (by rw [es3]; rfl) (pc2 := 15) rfl ?_
  refine e_aload_n dX6_layOut_15 0 rfl rfl (pc2 := 16) rfl ?_
  refine e_iconst (x := 0) dX6_layOut_16 (by decide) (pc2 := 17) rfl ?_
  obtain ⟨s4, es4, hf⟩ := ltb_s hf
  refine e_putI fl_X6_45 dX6_layOut_17 so_73 fn_6_3 (h2 := hp s4) (by rw [es4]; rfl) (pc2 := 20) rfl ?_
  refine e_aload_n dX6_layOut_20 0 rfl rfl (pc2 := 21) rfl ?_
  refine e_iconst (x := (-1)) dX6_layOut_21 (by decide) (pc2 := 22) rfl ?_
  obtain ⟨s5, es5, hf⟩ := ltb_s hf
  refine e_putI fl_X6_48 dX6_layOut_22 so_73 fn_6_4 (h2 := hp s5) (by rw [es5]; rfl) (pc2 := 25) rfl ?_
  refine e_aload_n dX6_layOut_25 0 rfl rfl (pc2 := 26) rfl ?_
  refine e_iconst (x := (-1)) dX6_layOut_26 (by decide) (pc2 := 27) rfl ?_
  obtain ⟨s6, es6, hf⟩ := ltb_s hf
  refine e_putI fl_X6_51 dX6_layOut_27 so_73 fn_6_5 (h2 := hp s6) (by rw [es6]; rfl) (pc2 := 30) rfl ?_
  refine e_aload_n dX6_layOut_30 0 rfl rfl (pc2 := 31) rfl ?_
  refine e_iconst (x := 0) dX6_layOut_31 (by decide) (pc2 := 32) rfl ?_
  obtain ⟨s7, es7, hf⟩ := ltb_s hf
  refine e_putI fl_X6_54 dX6_layOut_32 so_73 fn_6_6 (h2 := hp s7) (by rw [es7]; rfl) (pc2 := 35) rfl ?_
  refine e_aload_n dX6_layOut_35 0 rfl rfl (pc2 := 36) rfl ?_
  refine e_iconst (x := 0) dX6_layOut_36 (by decide) (pc2 := 37) rfl ?_
  obtain ⟨s8, es8, hf⟩ := ltb_s hf
  refine e_putI fl_X6_57 dX6_layOut_37 so_73 fn_6_7 (h2 := hp s8) (by rw [es8]; rfl) (pc2 := 40) rfl ?_
  cases hf
  exact e_vret rfl dX6_layOut_40
abbrev DDX6_makeReady : Nat := 3
def f_X6_makeReady_l12b (v1 : Int32) (k12 : Int32 → HS → Option HS) (k34 : HS → Option HS) (s : HS) : Option HS :=
  (if 2 ≤ v1 then k34 s else gd (inb v1 2) (ltb (sI s 80 (v1.toNatClampNeg) 0) fun s4 => ltb (v1 + 1) fun x6 => k12 x6 s4))
set_option maxRecDepth 20000 in
set_option maxHeartbeats 2000000 in
theorem t_X6_makeReady_l12b (v1 : Int32) (s : HS) {t : HS} (k12 : Int32 → HS → Option HS) (hk12 : ∀ (a1 : Int32) (s : HS), k12 a1 s = some t → Ev DDX6_makeReady miX6_makeReady NF none NF (hp t) 12 NF [(0, .ref 73), (1, .int a1)] [] (hp s)) (k34 : HS → Option HS) (hk34 : ∀ (s : HS), k34 s = some t → Ev DDX6_makeReady miX6_makeReady NF none NF (hp t) 34 NF [(0, .ref 73)] [] (hp s)) (hf : f_X6_makeReady_l12b v1 k12 k34 s = some t) : Ev DDX6_makeReady miX6_makeReady NF none NF (hp t) 12 NF [(0, .ref 73), (1, .int v1)] [] (hp s) := by
  refine e_iload_n dX6_makeReady_12 1 rfl rfl (pc2 := 13) rfl ?_
  refine e_aload_n dX6_makeReady_13 0 rfl rfl (pc2 := 14) rfl ?_
  refine e_getR (r := 80) fl_X6_30 dX6_makeReady_14 so_73 (rs_73_14 s.2.2) (by decide) (pc2 := 17) rfl ?_
  refine e_alen (x := 2) dX6_makeReady_17 sa_80 (by decide) (by decide) (pc2 := 18) rfl ?_
  refine e_icmp_ge (tgt := 34) dX6_makeReady_18 (by decide) (pc2 := 21) rfl (fun c3 => ?_) (fun c3 => ?_)
  · have hf := if_t c3 hf
    refine ev_sub [0] rfl ?_
    exact hk34 s hf
  · have hf := if_f c3 hf
    refine e_aload_n dX6_makeReady_21 0 rfl rfl (pc2 := 22) rfl ?_
    refine e_getR (r := 80) fl_X6_30 dX6_makeReady_22 so_73 (rs_73_14 s.2.2) (by decide) (pc2 := 25) rfl ?_
    refine e_iload_n dX6_makeReady_25 1 rfl rfl (pc2 := 26) rfl ?_
    refine e_iconst (x := 0) dX6_makeReady_26 (by decide) (pc2 := 27) rfl ?_
    obtain ⟨g5, hf⟩ := gd_some hf
    obtain ⟨s4, es4, hf⟩ := ltb_s hf
    refine e_iast dX6_makeReady_27 sa_80 (inb_v g5) (h2 := hp s4) (by rw [es4]; rfl) (pc2 := 28) rfl ?_
    obtain ⟨x6, ex6, hf⟩ := ltb_s hf
    refine e_iinc dX6_makeReady_28 1 rfl (c9 := 1) (by decide) ex6.symm (by decide) (ls' := [(0, .ref 73), (1, .int x6)]) [1, 0] rfl (pc2 := 31) rfl ?_
    refine e_goto (tgt := 12) dX6_makeReady_31 (by decide) ?_
    exact hk12 x6 s4 hf
def f_X6_makeReady_l12 (k34 : HS → Option HS) : Nat → Int32 → HS → Option HS
  | 0, _, _ => none
  | n + 1, v1, s => f_X6_makeReady_l12b v1 (f_X6_makeReady_l12 k34 n) k34 s
set_option maxRecDepth 20000 in
set_option maxHeartbeats 2000000 in
theorem t_X6_makeReady_l12  {t : HS} (k34 : HS → Option HS) (hk34 : ∀ (s : HS), k34 s = some t → Ev DDX6_makeReady miX6_makeReady NF none NF (hp t) 34 NF [(0, .ref 73)] [] (hp s)) : ∀ (n : Nat) (v1 : Int32) (s : HS), f_X6_makeReady_l12 k34 n v1 s = some t → Ev DDX6_makeReady miX6_makeReady NF none NF (hp t) 12 NF [(0, .ref 73), (1, .int v1)] [] (hp s) := by
  intro n
  induction n with
  | zero =>
    intro v1 s hf
    have hf : none = some t := hf
    cases hf
  | succ n ih =>
    intro v1 s hf
    exact t_X6_makeReady_l12b v1  s _ ih _ hk34 hf
def f_X6_makeReady_j89 (v1 : Int32) (v2 : Int32) (w0 : Int32) (w1 : Int32) (k36 : Int32 → HS → Option HS) (s : HS) : Option HS :=
  gd (inb w1 6) (ltb (sI s 74 (w1.toNatClampNeg) w0) fun s16 => gd (okX4 (s16.2.2.2.2.1)) (gd (okX7 (s16.2.2.2.2.2.1)) (gd (inb v1 6) (ltb (sI s16 75 (v1.toNatClampNeg) (f_X4_goesAt (s16.2.2.2.2.1) v2 (s16.1 (s16.2.2.2.2.2.1) 1) s16)) fun s20 => gd (inb v1 6) (ltb (sI s20 76 (v1.toNatClampNeg) (-1)) fun s22 => gd (inb v1 6) (ltb (sI s22 77 (v1.toNatClampNeg) (-1)) fun s24 => gd (inb v1 6) (ltb (sI s24 78 (v1.toNatClampNeg) 0) fun s26 => gd (inb v1 6) (ltb (sI s26 79 (v1.toNatClampNeg) 0) fun s28 => ltb (v1 + 1) fun x30 => k36 x30 s28))))))))
set_option maxRecDepth 20000 in
set_option maxHeartbeats 2000000 in
theorem t_X6_makeReady_j89 (v1 : Int32) (v2 : Int32) (w0 : Int32) (w1 : Int32) (s : HS) {t : HS} (k36 : Int32 → HS → Option HS) (hk36 : ∀ (a1 : Int32) (s : HS), k36 a1 s = some t → Ev DDX6_makeReady miX6_makeReady NF none NF (hp t) 36 NF [(0, .ref 73), (1, .int a1)] [] (hp s)) (hf : f_X6_makeReady_j89 v1 v2 w0 w1 k36 s = some t) : Ev DDX6_makeReady miX6_makeReady NF none NF (hp t) 89 NF [(0, .ref 73), (1, .int v1), (2, .int v2)] [.int w0, .int w1, .ref 74] (hp s) := by
  obtain ⟨g17, hf⟩ := gd_some hf
  obtain ⟨s16, es16, hf⟩ := ltb_s hf
  refine e_iast dX6_makeReady_89 sa_74 (inb_v g17) (h2 := hp s16) (by rw [es16]; rfl) (pc2 := 90) rfl ?_
  refine e_aload_n dX6_makeReady_90 0 rfl rfl (pc2 := 91) rfl ?_
  refine e_getR (r := 75) fl_X6_15 dX6_makeReady_91 so_73 (rs_73_9 s16.2.2) (by decide) (pc2 := 94) rfl ?_
  refine e_iload_n dX6_makeReady_94 1 rfl rfl (pc2 := 95) rfl ?_
  refine e_aload_n dX6_makeReady_95 0 rfl rfl (pc2 := 96) rfl ?_
  obtain ⟨g18, hf⟩ := gd_some hf
  refine e_getR (r := s16.2.2.2.2.1) fl_X6_33 dX6_makeReady_96 so_73 rfl (okX4_ne g18) (pc2 := 99) rfl ?_
  refine e_iload_n dX6_makeReady_99 2 rfl rfl (pc2 := 100) rfl ?_
  refine e_aload_n dX6_makeReady_100 0 rfl rfl (pc2 := 101) rfl ?_
  obtain ⟨g19, hf⟩ := gd_some hf
  refine e_getR (r := s16.2.2.2.2.2.1) fl_X6_37 dX6_makeReady_101 so_73 rfl (okX7_ne g19) (pc2 := 104) rfl ?_
  refine e_getI fl_X6_113 dX6_makeReady_104 (okX7_o g19) (by decide) (pc2 := 107) rfl ?_
  refine e_callVs (t_X4_goesAt (s16.2.2.2.2.1) g18 v2 (s16.1 (s16.2.2.2.2.2.1) 1) s16 rfl) dX6_makeReady_107 cv_X6_116 rfl (okX4_o g18) rc_4 (by decide) (by first | exact Nat.le_of_ble_eq_true rfl | simp [rva_cat, vc_i, vc_r, vc_l, vc_n]) nn0 rfl (pc2 := 110) rfl ?_
  obtain ⟨g21, hf⟩ := gd_some hf
  obtain ⟨s20, es20, hf⟩ := ltb_s hf
  refine e_iast dX6_makeReady_110 sa_75 (inb_v g21) (h2 := hp s20) (by rw [es20]; rfl) (pc2 := 111) rfl ?_
  refine e_aload_n dX6_makeReady_111 0 rfl rfl (pc2 := 112) rfl ?_
  refine e_getR (r := 76) fl_X6_18 dX6_makeReady_112 so_73 (rs_73_10 s20.2.2) (by decide) (pc2 := 115) rfl ?_
  refine e_iload_n dX6_makeReady_115 1 rfl rfl (pc2 := 116) rfl ?_
  refine e_iconst (x := (-1)) dX6_makeReady_116 (by decide) (pc2 := 117) rfl ?_
  obtain ⟨g23, hf⟩ := gd_some hf
  obtain ⟨s22, es22, hf⟩ := ltb_s hf
  refine e_iast dX6_makeReady_117 sa_76 (inb_v g23) (h2 := hp s22) (by rw [es22]; rfl) (pc2 := 118) rfl ?_
  refine e_aload_n dX6_makeReady_118 0 rfl rfl (pc2 := 119) rfl ?_
  refine e_getR (r := 77) fl_X6_21 dX6_makeReady_119 so_73 (rs_73_11 s22.2.2) (by decide) (pc2 := 122) rfl ?_
  refine e_iload_n dX6_makeReady_122 1 rfl rfl (pc2 := 123) rfl ?_
  refine e_iconst (x := (-1)) dX6_makeReady_123 (by decide) (pc2 := 124) rfl ?_
  obtain ⟨g25, hf⟩ := gd_some hf
  obtain ⟨s24, es24, hf⟩ := ltb_s hf
  refine e_iast dX6_makeReady_124 sa_77 (inb_v g25) (h2 := hp s24) (by rw [es24]; rfl) (pc2 := 125) rfl ?_
  refine e_aload_n dX6_makeReady_125 0 rfl rfl (pc2 := 126) rfl ?_
  refine e_getR (r := 78) fl_X6_24 dX6_makeReady_126 so_73 (rs_73_12 s24.2.2) (by decide) (pc2 := 129) rfl ?_
  refine e_iload_n dX6_makeReady_129 1 rfl rfl (pc2 := 130) rfl ?_
  refine e_iconst (x := 0) dX6_makeReady_130 (by decide) (pc2 := 131) rfl ?_
  obtain ⟨g27, hf⟩ := gd_some hf
  obtain ⟨s26, es26, hf⟩ := ltb_s hf
  refine e_iast dX6_makeReady_131 sa_78 (inb_v g27) (h2 := hp s26) (by rw [es26]; rfl) (pc2 := 132) rfl ?_
  refine e_aload_n dX6_makeReady_132 0 rfl rfl (pc2 := 133) rfl ?_
  refine e_getR (r := 79) fl_X6_27 dX6_makeReady_133 so_73 (rs_73_13 s26.2.2) (by decide) (pc2 := 136) rfl ?_
  refine e_iload_n dX6_makeReady_136 1 rfl rfl (pc2 := 137) rfl ?_
  refine e_iconst (x := 0) dX6_makeReady_137 (by decide) (pc2 := 138) rfl ?_
  obtain ⟨g29, hf⟩ := gd_some hf
  obtain ⟨s28, es28, hf⟩ := ltb_s hf
  refine e_iast dX6_makeReady_138 sa_79 (inb_v g29) (h2 := hp s28) (by rw [es28]; rfl) (pc2 := 139) rfl ?_
  obtain ⟨x30, ex30, hf⟩ := ltb_s hf
  refine e_iinc dX6_makeReady_139 1 rfl (c9 := 1) (by decide) ex30.symm (by decide) (ls' := [(0, .ref 73), (1, .int x30)]) [1, 0] rfl (pc2 := 142) rfl ?_
  refine e_goto (tgt := 36) dX6_makeReady_142 (by decide) ?_
  exact hk36 x30 s28 hf
def f_X6_makeReady_l36b (v1 : Int32) (k36 : Int32 → HS → Option HS) (s : HS) : Option HS :=
  gd (okX4 (s.2.2.2.2.1)) ((if (s.1 (s.2.2.2.2.1) 14) ≤ v1 then some s else gd (okX4 (s.2.2.2.2.1)) (gd (okX7 (s.2.2.2.2.2.1)) (bnd (f_X4_wayOf (s.2.2.2.2.1) v1 (s.1 (s.2.2.2.2.2.1) 2) s) fun y12 => gd (okX4 (s.2.2.2.2.1)) (gd (inb v1 6) ((if (s.1 (Rf (Rf (s.2.2.2.2.1) 15) v1.toNatClampNeg) 1) = 2 then f_X6_makeReady_j89 v1 y12 0 v1 k36 s else f_X6_makeReady_j89 v1 y12 y12 v1 k36 s)))))))
set_option maxRecDepth 20000 in
set_option maxHeartbeats 2000000 in
theorem t_X6_makeReady_l36b (v1 : Int32) (s : HS) {t : HS} (k36 : Int32 → HS → Option HS) (hk36 : ∀ (a1 : Int32) (s : HS), k36 a1 s = some t → Ev DDX6_makeReady miX6_makeReady NF none NF (hp t) 36 NF [(0, .ref 73), (1, .int a1)] [] (hp s)) (hf : f_X6_makeReady_l36b v1 k36 s = some t) : Ev DDX6_makeReady miX6_makeReady NF none NF (hp t) 36 NF [(0, .ref 73), (1, .int v1)] [] (hp s) := by
  refine e_iload_n dX6_makeReady_36 1 rfl rfl (pc2 := 37) rfl ?_
  refine e_aload_n dX6_makeReady_37 0 rfl rfl (pc2 := 38) rfl ?_
  obtain ⟨g8, hf⟩ := gd_some hf
  refine e_getR (r := s.2.2.2.2.1) fl_X6_33 dX6_makeReady_38 so_73 rfl (okX4_ne g8) (pc2 := 41) rfl ?_
  refine e_getI fl_X6_76 dX6_makeReady_41 (okX4_o g8) (by decide) (pc2 := 44) rfl ?_
  refine e_icmp_ge (tgt := 145) dX6_makeReady_44 (by decide) (pc2 := 47) rfl (fun c9 => ?_) (fun c9 => ?_)
  · have hf := if_t c9 hf
    cases hf
    exact e_vret rfl dX6_makeReady_145
  · have hf := if_f c9 hf
    refine e_aload_n dX6_makeReady_47 0 rfl rfl (pc2 := 48) rfl ?_
    obtain ⟨g10, hf⟩ := gd_some hf
    refine e_getR (r := s.2.2.2.2.1) fl_X6_33 dX6_makeReady_48 so_73 rfl (okX4_ne g10) (pc2 := 51) rfl ?_
    refine e_iload_n dX6_makeReady_51 1 rfl rfl (pc2 := 52) rfl ?_
    refine e_aload_n dX6_makeReady_52 0 rfl rfl (pc2 := 53) rfl ?_
    obtain ⟨g11, hf⟩ := gd_some hf
    refine e_getR (r := s.2.2.2.2.2.1) fl_X6_37 dX6_makeReady_53 so_73 rfl (okX7_ne g11) (pc2 := 56) rfl ?_
    refine e_getI fl_X6_97 dX6_makeReady_56 (okX7_o g11) (by decide) (pc2 := 59) rfl ?_
    obtain ⟨y12, hy12, hf⟩ := bnd_s hf
    refine e_callVs (t_X4_wayOf (s.2.2.2.2.1) g10 v1 (s.1 (s.2.2.2.2.2.1) 2) s hy12) dX6_makeReady_59 cv_X6_100 rfl (okX4_o g10) rc_4 (by decide) (by first | exact Nat.le_of_ble_eq_true rfl | simp [rva_cat, vc_i, vc_r, vc_l, vc_n]) nn0 rfl (pc2 := 62) rfl ?_
    refine e_istore_n dX6_makeReady_62 rfl (by decide) rfl (ls' := [(0, .ref 73), (1, .int v1), (2, .int y12)]) [1, 2, 0] rfl (pc2 := 63) rfl ?_
    refine e_aload_n dX6_makeReady_63 0 rfl rfl (pc2 := 64) rfl ?_
    refine e_getR (r := 74) fl_X6_9 dX6_makeReady_64 so_73 (rs_73_8 s.2.2) (by decide) (pc2 := 67) rfl ?_
    refine e_iload_n dX6_makeReady_67 1 rfl rfl (pc2 := 68) rfl ?_
    refine e_aload_n dX6_makeReady_68 0 rfl rfl (pc2 := 69) rfl ?_
    obtain ⟨g13, hf⟩ := gd_some hf
    refine e_getR (r := s.2.2.2.2.1) fl_X6_33 dX6_makeReady_69 so_73 rfl (okX4_ne g13) (pc2 := 72) rfl ?_
    refine e_getR (r := Rf (s.2.2.2.2.1) 15) fl_X6_104 dX6_makeReady_72 (okX4_o g13) (okX4_R g13) (isA_ne (okX4_buyer g13)) (pc2 := 75) rfl ?_
    refine e_iload_n dX6_makeReady_75 1 rfl rfl (pc2 := 76) rfl ?_
    obtain ⟨g14, hf⟩ := gd_some hf
    refine e_aald (r := Rf (Rf (s.2.2.2.2.1) 15) v1.toNatClampNeg) dX6_makeReady_76 (okX4_buyer g13) (by decide) (inb_v g14) (Rs_na (q := s.2.2) (okX4_buyer g13) (by decide)) (okX0_ne (okX4_buyer_el g13 (inb_v g14))) (pc2 := 77) rfl ?_
    refine e_getI fl_X6_108 dX6_makeReady_77 (okX0_o (okX4_buyer_el g13 (inb_v g14))) (by decide) (pc2 := 80) rfl ?_
    refine e_iconst (x := 2) dX6_makeReady_80 (by decide) (pc2 := 81) rfl ?_
    refine e_icmp_ne (tgt := 88) dX6_makeReady_81 (by decide) (pc2 := 84) rfl (fun c15 => ?_) (fun c15 => ?_)
    · have hf := if_f c15 hf
      refine e_iload_n dX6_makeReady_88 2 rfl rfl (pc2 := 89) rfl ?_
      exact t_X6_makeReady_j89 v1 y12 y12 v1 s _ hk36 hf
    · have hf := if_t c15 hf
      refine e_iconst (x := 0) dX6_makeReady_84 (by decide) (pc2 := 85) rfl ?_
      refine e_goto (tgt := 89) dX6_makeReady_85 (by decide) ?_
      exact t_X6_makeReady_j89 v1 y12 0 v1 s _ hk36 hf
def f_X6_makeReady_l36  : Nat → Int32 → HS → Option HS
  | 0, _, _ => none
  | n + 1, v1, s => f_X6_makeReady_l36b v1 (f_X6_makeReady_l36  n)  s
set_option maxRecDepth 20000 in
set_option maxHeartbeats 2000000 in
theorem t_X6_makeReady_l36  {t : HS}  : ∀ (n : Nat) (v1 : Int32) (s : HS), f_X6_makeReady_l36  n v1 s = some t → Ev DDX6_makeReady miX6_makeReady NF none NF (hp t) 36 NF [(0, .ref 73), (1, .int v1)] [] (hp s) := by
  intro n
  induction n with
  | zero =>
    intro v1 s hf
    have hf : none = some t := hf
    cases hf
  | succ n ih =>
    intro v1 s hf
    exact t_X6_makeReady_l36b v1  s _ ih  hf
def f_X6_makeReady  (s : HS) : Option HS :=
  ltb (sI s 73 15 0) fun s1 => ltb (sI s1 73 16 0) fun s2 => f_X6_makeReady_l12 (fun s7 => f_X6_makeReady_l36 FU 0 s7) FU 0 s2
set_option maxRecDepth 20000 in
set_option maxHeartbeats 2000000 in
theorem t_X6_makeReady  (s : HS) {t : HS} (hf : f_X6_makeReady s = some t) : Mt DDX6_makeReady miX6_makeReady [.ref 73] NF (hp s) none NF (hp t) := by
  refine Mt.of (by decide +kernel) (Nat.le_refl _) (Nat.le_of_ble_eq_true rfl) ?_
  show Ev DDX6_makeReady miX6_makeReady NF none NF (hp t) 0 NF [(0, .ref 73)] [] (hp s)
  unfold f_X6_makeReady at hf
  refine e_aload_n dX6_makeReady_0 0 rfl rfl (pc2 := 1) rfl ?_
  refine e_iconst (x := 0) dX6_makeReady_1 (by decide) (pc2 := 2) rfl ?_
  obtain ⟨s1, es1, hf⟩ := ltb_s hf
  refine e_putI fl_X6_91 dX6_makeReady_2 so_73 fn_6_15 (h2 := hp s1) (by rw [es1]; rfl) (pc2 := 5) rfl ?_
  refine e_aload_n dX6_makeReady_5 0 rfl rfl (pc2 := 6) rfl ?_
  refine e_iconst (x := 0) dX6_makeReady_6 (by decide) (pc2 := 7) rfl ?_
  obtain ⟨s2, es2, hf⟩ := ltb_s hf
  refine e_putI fl_X6_94 dX6_makeReady_7 so_73 fn_6_16 (h2 := hp s2) (by rw [es2]; rfl) (pc2 := 10) rfl ?_
  refine e_iconst (x := 0) dX6_makeReady_10 (by decide) (pc2 := 11) rfl ?_
  refine e_istore_n dX6_makeReady_11 rfl (by decide) rfl (ls' := [(0, .ref 73), (1, .int 0)]) [1, 0] rfl (pc2 := 12) rfl ?_
  refine t_X6_makeReady_l12 _ ?_ FU 0 s2 hf
  · intro s7 hf
    refine e_iconst (x := 0) dX6_makeReady_34 (by decide) (pc2 := 35) rfl ?_
    refine e_istore_n dX6_makeReady_35 rfl (by decide) rfl (ls' := [(0, .ref 73), (1, .int 0)]) [1, 0] rfl (pc2 := 36) rfl ?_
    refine t_X6_makeReady_l36 FU 0 s7 hf
abbrev DDX6_isOut : Nat := 1
def f_X6_isOut (v1 : Int32) (s : HS) : Option Int32 :=
  gd (okX7 (s.2.2.2.2.2.1)) ((if (((s.1 (s.2.2.2.2.2.1) 0) >>> (v1 &&& 31)) &&& (1 : Int32)) = 0 then some 0 else some 1))
set_option maxRecDepth 20000 in
set_option maxHeartbeats 2000000 in
theorem t_X6_isOut (v1 : Int32) (s : HS) {x : Int32} (hf : f_X6_isOut v1 s = some x) : Mt DDX6_isOut miX6_isOut [.ref 73, .int v1] NF (hp s) (some (.int x)) NF (hp s) := by
  refine Mt.of (by decide +kernel) (Nat.le_refl _) (Nat.le_of_ble_eq_true rfl) ?_
  show Ev DDX6_isOut miX6_isOut NF (some (.int x)) NF (hp s) 0 NF [(0, .ref 73), (1, .int v1)] [] (hp s)
  unfold f_X6_isOut at hf
  refine e_aload_n dX6_isOut_0 0 rfl rfl (pc2 := 1) rfl ?_
  obtain ⟨g1, hf⟩ := gd_some hf
  refine e_getR (r := s.2.2.2.2.2.1) fl_X6_37 dX6_isOut_1 so_73 rfl (okX7_ne g1) (pc2 := 4) rfl ?_
  refine e_getI fl_X6_86 dX6_isOut_4 (okX7_o g1) (by decide) (pc2 := 7) rfl ?_
  refine e_iload_n dX6_isOut_7 1 rfl rfl (pc2 := 8) rfl ?_
  refine e_ishr dX6_isOut_8 (pc2 := 9) rfl ?_
  refine e_iconst (x := 1) dX6_isOut_9 (by decide) (pc2 := 10) rfl ?_
  refine e_iand dX6_isOut_10 (pc2 := 11) rfl ?_
  refine e_if_eq (tgt := 18) dX6_isOut_11 (by decide) (pc2 := 14) rfl (fun c2 => ?_) (fun c2 => ?_)
  · have hf := if_t c2 hf
    refine e_iconst (x := 0) dX6_isOut_18 (by decide) (pc2 := 19) rfl ?_
    cases hf
    exact e_zret (by decide) rfl dX6_isOut_19
  · have hf := if_f c2 hf
    refine e_iconst (x := 1) dX6_isOut_14 (by decide) (pc2 := 15) rfl ?_
    refine e_goto (tgt := 19) dX6_isOut_15 (by decide) ?_
    cases hf
    exact e_zret (by decide) rfl dX6_isOut_19
abbrev DDX6_wantsToo : Nat := 1
def f_X6_wantsToo (v1 : Int32) (v2 : Int32) (s : HS) : Int32 :=
  (if v1 = v2 then 1 else (if v1 = (s.1 73 4) then (if (((s.1 73 3) >>> (v2 &&& 31)) &&& (1 : Int32)) = 0 then 0 else 1) else 0))
set_option maxRecDepth 20000 in
set_option maxHeartbeats 2000000 in
theorem t_X6_wantsToo (v1 : Int32) (v2 : Int32) (s : HS) {x : Int32} (hf : f_X6_wantsToo v1 v2 s = x) : Mt DDX6_wantsToo miX6_wantsToo [.ref 73, .int v1, .int v2] NF (hp s) (some (.int x)) NF (hp s) := by
  refine Mt.of (by decide +kernel) (Nat.le_refl _) (Nat.le_of_ble_eq_true rfl) ?_
  show Ev DDX6_wantsToo miX6_wantsToo NF (some (.int x)) NF (hp s) 0 NF [(0, .ref 73), (1, .int v1), (2, .int v2)] [] (hp s)
  unfold f_X6_wantsToo at hf
  refine e_iload_n dX6_wantsToo_0 1 rfl rfl (pc2 := 1) rfl ?_
  refine e_iload_n dX6_wantsToo_1 2 rfl rfl (pc2 := 2) rfl ?_
  refine e_icmp_eq (tgt := 24) dX6_wantsToo_2 (by decide) (pc2 := 5) rfl (fun c1 => ?_) (fun c1 => ?_)
  · have hf := if_t c1 hf
    refine e_iconst (x := 1) dX6_wantsToo_24 (by decide) (pc2 := 25) rfl ?_
    refine e_goto (tgt := 29) dX6_wantsToo_25 (by decide) ?_
    cases hf
    exact e_zret (by decide) rfl dX6_wantsToo_29
  · have hf := if_f c1 hf
    refine e_iload_n dX6_wantsToo_5 1 rfl rfl (pc2 := 6) rfl ?_
    refine e_aload_n dX6_wantsToo_6 0 rfl rfl (pc2 := 7) rfl ?_
    refine e_getI fl_X6_48 dX6_wantsToo_7 so_73 (by decide) (pc2 := 10) rfl ?_
    refine e_icmp_ne (tgt := 28) dX6_wantsToo_10 (by decide) (pc2 := 13) rfl (fun c2 => ?_) (fun c2 => ?_)
    · have hf := if_f c2 hf
      refine e_iconst (x := 0) dX6_wantsToo_28 (by decide) (pc2 := 29) rfl ?_
      cases hf
      exact e_zret (by decide) rfl dX6_wantsToo_29
    · have hf := if_t c2 hf
      refine e_aload_n dX6_wantsToo_13 0 rfl rfl (pc2 := 14) rfl ?_
      refine e_getI fl_X6_45 dX6_wantsToo_14 so_73 (by decide) (pc2 := 17) rfl ?_
      refine e_iload_n dX6_wantsToo_17 2 rfl rfl (pc2 := 18) rfl ?_
      refine e_ishr dX6_wantsToo_18 (pc2 := 19) rfl ?_
      refine e_iconst (x := 1) dX6_wantsToo_19 (by decide) (pc2 := 20) rfl ?_
      refine e_iand dX6_wantsToo_20 (pc2 := 21) rfl ?_
      refine e_if_eq (tgt := 28) dX6_wantsToo_21 (by decide) (pc2 := 24) rfl (fun c3 => ?_) (fun c3 => ?_)
      · have hf := if_t c3 hf
        refine e_iconst (x := 0) dX6_wantsToo_28 (by decide) (pc2 := 29) rfl ?_
        cases hf
        exact e_zret (by decide) rfl dX6_wantsToo_29
      · have hf := if_f c3 hf
        refine e_iconst (x := 1) dX6_wantsToo_24 (by decide) (pc2 := 25) rfl ?_
        refine e_goto (tgt := 29) dX6_wantsToo_25 (by decide) ?_
        cases hf
        exact e_zret (by decide) rfl dX6_wantsToo_29
