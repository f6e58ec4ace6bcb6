abbrev DDX12_set : Nat := 4
def f_X12_set_j58 (v1 : Int32) (v2 : Int32) (w0 : Int32) (s : HS) : Option (Int32 × HS) :=
  (if w0 = 0 then some (0, s) else bnd2 (f_X12_changes (1 + v1) v2 1 s) fun y6 s7 => (if y6 = 0 then some (0, s7) else some (1, s7)))
set_option maxRecDepth 20000 in
set_option maxHeartbeats 2000000 in
theorem t_X12_set_j58 (v1 : Int32) (v2 : Int32) (w0 : Int32) (s : HS) {x : Int32} {t : HS}  (hf : f_X12_set_j58 v1 v2 w0 s = some (x, t)) : Ev DDX12_set miX12_set NF (some (.int x)) NF (hp t) 58 NF [(0, .ref 101), (1, .int v1), (2, .int v2)] [.int w0] (hp s) := by
  refine e_istore_n dX12_set_58 rfl (by decide) rfl (ls' := [(0, .ref 101), (1, .int v1), (2, .int v2), (3, .int w0)]) [1, 2, 3, 0] rfl (pc2 := 59) rfl ?_
  refine e_iload_n dX12_set_59 3 rfl rfl (pc2 := 60) rfl ?_
  refine e_if_eq (tgt := 79) dX12_set_60 (by decide) (pc2 := 63) rfl (fun c5 => ?_) (fun c5 => ?_)
  · have hf := if_t c5 hf
    refine e_iconst (x := 0) dX12_set_79 (by decide) (pc2 := 80) rfl ?_
    cases hf
    exact e_zret (by decide) rfl dX12_set_80
  · have hf := if_f c5 hf
    refine e_aload_n dX12_set_63 0 rfl rfl (pc2 := 64) rfl ?_
    refine e_iconst (x := 1) dX12_set_64 (by decide) (pc2 := 65) rfl ?_
    refine e_iload_n dX12_set_65 1 rfl rfl (pc2 := 66) rfl ?_
    refine e_iadd dX12_set_66 (pc2 := 67) rfl ?_
    refine e_iload_n dX12_set_67 2 rfl rfl (pc2 := 68) rfl ?_
    refine e_iconst (x := 1) dX12_set_68 (by decide) (pc2 := 69) rfl ?_
    obtain ⟨y6, s7, hy6, hf⟩ := bnd2_s hf
    refine e_callVs (t_X12_changes (1 + v1) v2 1 s hy6) dX12_set_69 cv_X12_524 rfl so_101 rc_11 (by decide) (by first | exact Nat.le_of_ble_eq_true rfl | simp [rva_cat, vc_i, vc_r, vc_l, vc_n]) nn0 rfl (pc2 := 72) rfl ?_
    refine e_if_eq (tgt := 79) dX12_set_72 (by decide) (pc2 := 75) rfl (fun c8 => ?_) (fun c8 => ?_)
    · have hf := if_t c8 hf
      refine e_iconst (x := 0) dX12_set_79 (by decide) (pc2 := 80) rfl ?_
      cases hf
      exact e_zret (by decide) rfl dX12_set_80
    · have hf := if_f c8 hf
      refine e_iconst (x := 1) dX12_set_75 (by decide) (pc2 := 76) rfl ?_
      refine e_goto (tgt := 80) dX12_set_76 (by decide) ?_
      cases hf
      exact e_zret (by decide) rfl dX12_set_80
def f_X12_set_j57 (v1 : Int32) (v2 : Int32) (s : HS) : Option (Int32 × HS) :=
  f_X12_set_j58 v1 v2 0 s
set_option maxRecDepth 20000 in
set_option maxHeartbeats 2000000 in
theorem t_X12_set_j57 (v1 : Int32) (v2 : Int32) (s : HS) {x : Int32} {t : HS}  (hf : f_X12_set_j57 v1 v2 s = some (x, t)) : Ev DDX12_set miX12_set NF (some (.int x)) NF (hp t) 57 NF [(0, .ref 101), (1, .int v1), (2, .int v2)] [] (hp s) := by
  refine e_iconst (x := 0) dX12_set_57 (by decide) (pc2 := 58) rfl ?_
  exact t_X12_set_j58 v1 v2 0 s hf
def f_X12_set (v1 : Int32) (v2 : Int32) (s : HS) : Option (Int32 × HS) :=
  ltb (sI s 101 0 0) fun s1 => (if v1 = 0 then f_X12_set_j58 v1 v2 (f_X12_within v2 1 (s1.1 103 3) s1) s1 else (if v1 = 1 then f_X12_set_j58 v1 v2 (f_X12_within v2 0 200 s1) s1 else (if v1 = 2 then (if (f_X12_within v2 1 2 s1) = 0 then f_X12_set_j57 v1 v2 s1 else f_X12_set_j58 v1 v2 1 s1) else f_X12_set_j57 v1 v2 s1)))
set_option maxRecDepth 20000 in
set_option maxHeartbeats 2000000 in
theorem t_X12_set (v1 : Int32) (v2 : Int32) (s : HS) {x : Int32} {t : HS} (hf : f_X12_set  v1 v2 s = some (x, t)) : Mt DDX12_set miX12_set [.ref 101, .int v1, .int v2] NF (hp s) (some (.int x)) NF (hp t) := by
  refine Mt.of (by decide +kernel) (Nat.le_refl _) (Nat.le_of_ble_eq_true rfl) ?_
  show Ev DDX12_set miX12_set NF (some (.int x)) NF (hp t) 0 NF [(0, .ref 101), (1, .int v1), (2, .int v2)] [] (hp s)
  unfold f_X12_set at hf
  refine e_aload_n dX12_set_0 0 rfl rfl (pc2 := 1) rfl ?_
  refine e_iconst (x := 0) dX12_set_1 (by decide) (pc2 := 2) rfl ?_
  obtain ⟨s1, es1, hf⟩ := ltb_s hf
  refine e_putI fl_X12_194 dX12_set_2 so_101 fn_11_0 (h2 := hp s1) (by rw [es1]; rfl) (pc2 := 5) rfl ?_
  refine e_iload_n dX12_set_5 1 rfl rfl (pc2 := 6) rfl ?_
  refine e_if_ne (tgt := 23) dX12_set_6 (by decide) (pc2 := 9) rfl (fun c2 => ?_) (fun c2 => ?_)
  · have hf := if_f c2 hf
    refine e_iload_n dX12_set_23 1 rfl rfl (pc2 := 24) rfl ?_
    refine e_iconst (x := 1) dX12_set_24 (by decide) (pc2 := 25) rfl ?_
    refine e_icmp_ne (tgt := 39) dX12_set_25 (by decide) (pc2 := 28) rfl (fun c3 => ?_) (fun c3 => ?_)
    · have hf := if_f c3 hf
      refine e_iload_n dX12_set_39 1 rfl rfl (pc2 := 40) rfl ?_
      refine e_iconst (x := 2) dX12_set_40 (by decide) (pc2 := 41) rfl ?_
      refine e_icmp_ne (tgt := 57) dX12_set_41 (by decide) (pc2 := 44) rfl (fun c4 => ?_) (fun c4 => ?_)
      · have hf := if_f c4 hf
        exact t_X12_set_j57 v1 v2 s1 hf
      · have hf := if_t c4 hf
        refine e_iload_n dX12_set_44 2 rfl rfl (pc2 := 45) rfl ?_
        refine e_iconst (x := 1) dX12_set_45 (by decide) (pc2 := 46) rfl ?_
        refine e_iconst (x := 2) dX12_set_46 (by decide) (pc2 := 47) rfl ?_
        refine e_callSs (t_X12_within v2 1 2 s1 rfl) dX12_set_47 cs_X12_343 rfl (by decide) (by first | exact Nat.le_of_ble_eq_true rfl | simp [rva_cat, vc_i, vc_r, vc_l, vc_n]) nn0 rfl (pc2 := 50) rfl ?_
        refine e_if_eq (tgt := 57) dX12_set_50 (by decide) (pc2 := 53) rfl (fun c9 => ?_) (fun c9 => ?_)
        · have hf := if_t c9 hf
          exact t_X12_set_j57 v1 v2 s1 hf
        · have hf := if_f c9 hf
          refine e_iconst (x := 1) dX12_set_53 (by decide) (pc2 := 54) rfl ?_
          refine e_goto (tgt := 58) dX12_set_54 (by decide) ?_
          exact t_X12_set_j58 v1 v2 1 s1 hf
    · have hf := if_t c3 hf
      refine e_iload_n dX12_set_28 2 rfl rfl (pc2 := 29) rfl ?_
      refine e_iconst (x := 0) dX12_set_29 (by decide) (pc2 := 30) rfl ?_
      refine e_sipush (x := 200) dX12_set_30 (by decide) (pc2 := 33) rfl ?_
      refine e_callSs (t_X12_within v2 0 200 s1 rfl) dX12_set_33 cs_X12_343 rfl (by decide) (by first | exact Nat.le_of_ble_eq_true rfl | simp [rva_cat, vc_i, vc_r, vc_l, vc_n]) nn0 rfl (pc2 := 36) rfl ?_
      refine e_goto (tgt := 58) dX12_set_36 (by decide) ?_
      exact t_X12_set_j58 v1 v2 (f_X12_within v2 0 200 s1) s1 hf
  · have hf := if_t c2 hf
    refine e_iload_n dX12_set_9 2 rfl rfl (pc2 := 10) rfl ?_
    refine e_iconst (x := 1) dX12_set_10 (by decide) (pc2 := 11) rfl ?_
    refine e_aload_n dX12_set_11 0 rfl rfl (pc2 := 12) rfl ?_
    refine e_getR (r := 103) fl_X12_13 dX12_set_12 so_101 (rs_101_10 s1.2.2) (by decide) (pc2 := 15) rfl ?_
    refine e_iconst (x := 3) dX12_set_15 (by decide) (pc2 := 16) rfl ?_
    refine e_iald dX12_set_16 sa_103 (inb_v (by decide)) (pc2 := 17) rfl ?_
    refine e_callSs (t_X12_within v2 1 (s1.1 103 3) s1 rfl) dX12_set_17 cs_X12_343 rfl (by decide) (by first | exact Nat.le_of_ble_eq_true rfl | simp [rva_cat, vc_i, vc_r, vc_l, vc_n]) nn0 rfl (pc2 := 20) rfl ?_
    refine e_goto (tgt := 58) dX12_set_20 (by decide) ?_
    exact t_X12_set_j58 v1 v2 (f_X12_within v2 1 (s1.1 103 3) s1) s1 hf
abbrev DDX12_heats : Nat := 4
def f_X12_heats (v1 : Int32) (v2 : Int32) (s : HS) : Option (Int32 × HS) :=
  ltb (sI s 101 0 0) fun s1 => (if (f_X12_isThing v1 s1) = 0 then some (0, s1) else (if (f_X12_within v2 0 99 s1) = 0 then some (0, s1) else bnd2 (f_X12_changes (4 + v1) v2 1 s1) fun y4 s5 => (if y4 = 0 then some (0, s5) else some (1, s5))))
set_option maxRecDepth 20000 in
set_option maxHeartbeats 2000000 in
theorem t_X12_heats (v1 : Int32) (v2 : Int32) (s : HS) {x : Int32} {t : HS} (hf : f_X12_heats  v1 v2 s = some (x, t)) : Mt DDX12_heats miX12_heats [.ref 101, .int v1, .int v2] NF (hp s) (some (.int x)) NF (hp t) := by
  refine Mt.of (by decide +kernel) (Nat.le_refl _) (Nat.le_of_ble_eq_true rfl) ?_
  show Ev DDX12_heats miX12_heats NF (some (.int x)) NF (hp t) 0 NF [(0, .ref 101), (1, .int v1), (2, .int v2)] [] (hp s)
  unfold f_X12_heats at hf
  refine e_aload_n dX12_heats_0 0 rfl rfl (pc2 := 1) rfl ?_
  refine e_iconst (x := 0) dX12_heats_1 (by decide) (pc2 := 2) rfl ?_
  obtain ⟨s1, es1, hf⟩ := ltb_s hf
  refine e_putI fl_X12_194 dX12_heats_2 so_101 fn_11_0 (h2 := hp s1) (by rw [es1]; rfl) (pc2 := 5) rfl ?_
  refine e_aload_n dX12_heats_5 0 rfl rfl (pc2 := 6) rfl ?_
  refine e_iload_n dX12_heats_6 1 rfl rfl (pc2 := 7) rfl ?_
  refine e_callVs (t_X12_isThing v1 s1 rfl) dX12_heats_7 cv_X12_507 rfl so_101 rc_11 (by decide) (by first | exact Nat.le_of_ble_eq_true rfl | simp [rva_cat, vc_i, vc_r, vc_l, vc_n]) nn0 rfl (pc2 := 10) rfl ?_
  refine e_if_eq (tgt := 39) dX12_heats_10 (by decide) (pc2 := 13) rfl (fun c2 => ?_) (fun c2 => ?_)
  · have hf := if_t c2 hf
    refine e_iconst (x := 0) dX12_heats_39 (by decide) (pc2 := 40) rfl ?_
    cases hf
    exact e_zret (by decide) rfl dX12_heats_40
  · have hf := if_f c2 hf
    refine e_iload_n dX12_heats_13 2 rfl rfl (pc2 := 14) rfl ?_
    refine e_iconst (x := 0) dX12_heats_14 (by decide) (pc2 := 15) rfl ?_
    refine e_bipush (x := 99) dX12_heats_15 (by decide) (pc2 := 17) rfl ?_
    refine e_callSs (t_X12_within v2 0 99 s1 rfl) dX12_heats_17 cs_X12_343 rfl (by decide) (by first | exact Nat.le_of_ble_eq_true rfl | simp [rva_cat, vc_i, vc_r, vc_l, vc_n]) nn0 rfl (pc2 := 20) rfl ?_
    refine e_if_eq (tgt := 39) dX12_heats_20 (by decide) (pc2 := 23) rfl (fun c3 => ?_) (fun c3 => ?_)
    · have hf := if_t c3 hf
      refine e_iconst (x := 0) dX12_heats_39 (by decide) (pc2 := 40) rfl ?_
      cases hf
      exact e_zret (by decide) rfl dX12_heats_40
    · have hf := if_f c3 hf
      refine e_aload_n dX12_heats_23 0 rfl rfl (pc2 := 24) rfl ?_
      refine e_iconst (x := 4) dX12_heats_24 (by decide) (pc2 := 25) rfl ?_
      refine e_iload_n dX12_heats_25 1 rfl rfl (pc2 := 26) rfl ?_
      refine e_iadd dX12_heats_26 (pc2 := 27) rfl ?_
      refine e_iload_n dX12_heats_27 2 rfl rfl (pc2 := 28) rfl ?_
      refine e_iconst (x := 1) dX12_heats_28 (by decide) (pc2 := 29) rfl ?_
      obtain ⟨y4, s5, hy4, hf⟩ := bnd2_s hf
      refine e_callVs (t_X12_changes (4 + v1) v2 1 s1 hy4) dX12_heats_29 cv_X12_524 rfl so_101 rc_11 (by decide) (by first | exact Nat.le_of_ble_eq_true rfl | simp [rva_cat, vc_i, vc_r, vc_l, vc_n]) nn0 rfl (pc2 := 32) rfl ?_
      refine e_if_eq (tgt := 39) dX12_heats_32 (by decide) (pc2 := 35) rfl (fun c6 => ?_) (fun c6 => ?_)
      · have hf := if_t c6 hf
        refine e_iconst (x := 0) dX12_heats_39 (by decide) (pc2 := 40) rfl ?_
        cases hf
        exact e_zret (by decide) rfl dX12_heats_40
      · have hf := if_f c6 hf
        refine e_iconst (x := 1) dX12_heats_35 (by decide) (pc2 := 36) rfl ?_
        refine e_goto (tgt := 40) dX12_heats_36 (by decide) ?_
        cases hf
        exact e_zret (by decide) rfl dX12_heats_40
abbrev DDX12_undo : Nat := 2
def f_X12_undo  (s : HS) : Option (Int32 × HS) :=
  ltb (sI s 101 0 0) fun s1 => (if (s1.1 101 60) = 0 then some (0, s1) else ltb (sI s1 101 60 ((s1.1 101 60) - 1)) fun s3 => bnd (f_X12_copies 148 (9 * (s3.1 101 60)) 145 0 s3) fun s5 => some (1, s5))
set_option maxRecDepth 20000 in
set_option maxHeartbeats 2000000 in
theorem t_X12_undo  (s : HS) {x : Int32} {t : HS} (hf : f_X12_undo  s = some (x, t)) : Mt DDX12_undo miX12_undo [.ref 101] NF (hp s) (some (.int x)) NF (hp t) := by
  refine Mt.of (by decide +kernel) (Nat.le_refl _) (Nat.le_of_ble_eq_true rfl) ?_
  show Ev DDX12_undo miX12_undo NF (some (.int x)) NF (hp t) 0 NF [(0, .ref 101)] [] (hp s)
  unfold f_X12_undo at hf
  refine e_aload_n dX12_undo_0 0 rfl rfl (pc2 := 1) rfl ?_
  refine e_iconst (x := 0) dX12_undo_1 (by decide) (pc2 := 2) rfl ?_
  obtain ⟨s1, es1, hf⟩ := ltb_s hf
  refine e_putI fl_X12_194 dX12_undo_2 so_101 fn_11_0 (h2 := hp s1) (by rw [es1]; rfl) (pc2 := 5) rfl ?_
  refine e_aload_n dX12_undo_5 0 rfl rfl (pc2 := 6) rfl ?_
  refine e_getI fl_X12_433 dX12_undo_6 so_101 (by decide) (pc2 := 9) rfl ?_
  refine e_if_ne (tgt := 14) dX12_undo_9 (by decide) (pc2 := 12) rfl (fun c2 => ?_) (fun c2 => ?_)
  · have hf := if_f c2 hf
    refine e_aload_n dX12_undo_14 0 rfl rfl (pc2 := 15) rfl ?_
    refine e_dup dX12_undo_15 rfl (pc2 := 16) rfl ?_
    refine e_getI fl_X12_433 dX12_undo_16 so_101 (by decide) (pc2 := 19) rfl ?_
    refine e_iconst (x := 1) dX12_undo_19 (by decide) (pc2 := 20) rfl ?_
    refine e_isub dX12_undo_20 (pc2 := 21) rfl ?_
    obtain ⟨s3, es3, hf⟩ := ltb_s hf
    refine e_putI fl_X12_433 dX12_undo_21 so_101 fn_11_60 (h2 := hp s3) (by rw [es3]; rfl) (pc2 := 24) rfl ?_
    refine e_aload_n dX12_undo_24 0 rfl rfl (pc2 := 25) rfl ?_
    refine e_getR (r := 148) fl_X12_150 dX12_undo_25 so_101 (rs_101_58 s3.2.2) (by decide) (pc2 := 28) rfl ?_
    refine e_bipush (x := 9) dX12_undo_28 (by decide) (pc2 := 30) rfl ?_
    refine e_aload_n dX12_undo_30 0 rfl rfl (pc2 := 31) rfl ?_
    refine e_getI fl_X12_433 dX12_undo_31 so_101 (by decide) (pc2 := 34) rfl ?_
    refine e_imul dX12_undo_34 (pc2 := 35) rfl ?_
    refine e_aload_n dX12_undo_35 0 rfl rfl (pc2 := 36) rfl ?_
    refine e_getR (r := 145) fl_X12_141 dX12_undo_36 so_101 (rs_101_55 s3.2.2) (by decide) (pc2 := 39) rfl ?_
    refine e_iconst (x := 0) dX12_undo_39 (by decide) (pc2 := 40) rfl ?_
    obtain ⟨s5, hy4, hf⟩ := bnd_s hf
    refine e_callSn (t_X12_copies 148 (by decide) (9 * (s3.1 101 60)) 145 (by decide) 0 s3 hy4) dX12_undo_40 cs_X12_513 rfl (by decide) (by first | exact Nat.le_of_ble_eq_true rfl | simp [rva_cat, vc_i, vc_r, vc_l, vc_n]) nn0 rfl (pc2 := 43) rfl ?_
    refine e_iconst (x := 1) dX12_undo_43 (by decide) (pc2 := 44) rfl ?_
    cases hf
    exact e_zret (by decide) rfl dX12_undo_44
  · have hf := if_t c2 hf
    refine e_iconst (x := 0) dX12_undo_12 (by decide) (pc2 := 13) rfl ?_
    cases hf
    exact e_zret (by decide) rfl dX12_undo_13
abbrev DDX12_goes : Nat := 7
def f_X12_goes (v1 : Int32) (s : HS) : Option (Int32 × HS) :=
  gd (inb v1 240) (ltb (s.1 136 v1.toNatClampNeg) fun x2 => gd (inb v1 240) (ltb (s.1 138 v1.toNatClampNeg) fun x4 => (if 1 < x2 then (if x2 = 2 then (if (s.1 103 3) < x4 then some (0, s) else bnd2 (f_X12_changes 1 x4 0 s) fun y30 s31 => (if y30 = 0 then some (0, s31) else some (1, s31))) else (if 5 ≤ x2 then (if x2 = 5 then gd (inb v1 240) (bnd2 (f_X12_changes (4 + (s.1 137 v1.toNatClampNeg)) x4 0 s) fun y18 s19 => gd (isb y18) (some (y18, s19))) else bnd (f_X12_runs s) fun s10 => bnd (f_X12_pence s10) fun y11 => ltb (sI s10 101 74 ((s10.1 101 74) + y11)) fun s12 => bnd (f_X12_drunkInAll s12) fun y13 => ltb (sI s12 101 75 ((s12.1 101 75) + y13)) fun s14 => bnd (f_X12_drunkInAll s14) fun y15 => (if y15 ≤ 0 then some (0, s14) else some (1, s14))) else (if x2 = 3 then bnd2 (f_X12_changes 2 x4 0 s) fun y25 s26 => gd (isb y25) (some (y25, s26)) else bnd2 (f_X12_changes 3 x4 0 s) fun y22 s23 => gd (isb y22) (some (y22, s23))))) else gd (inb v1 240) ((if x2 = 0 then bnd2 (f_X12_changes 0 (f_X12_outThen (s.1 137 v1.toNatClampNeg) 1 s) 0 s) fun y38 s39 => gd (isb y38) (some (y38, s39)) else bnd2 (f_X12_changes 0 (f_X12_outThen (s.1 137 v1.toNatClampNeg) 0 s) 0 s) fun y35 s36 => gd (isb y35) (some (y35, s36)))))))
set_option maxRecDepth 20000 in
set_option maxHeartbeats 2000000 in
theorem t_X12_goes (v1 : Int32) (s : HS) {x : Int32} {t : HS} (hf : f_X12_goes  v1 s = some (x, t)) : Mt DDX12_goes miX12_goes [.ref 101, .int v1] NF (hp s) (some (.int x)) NF (hp t) := by
  refine Mt.of (by decide +kernel) (Nat.le_refl _) (Nat.le_of_ble_eq_true rfl) ?_
  show Ev DDX12_goes miX12_goes NF (some (.int x)) NF (hp t) 0 NF [(0, .ref 101), (1, .int v1)] [] (hp s)
  unfold f_X12_goes at hf
  refine e_aload_n dX12_goes_0 0 rfl rfl (pc2 := 1) rfl ?_
  refine e_getR (r := 136) fl_X12_114 dX12_goes_1 so_101 (rs_101_46 s.2.2) (by decide) (pc2 := 4) rfl ?_
  refine e_iload_n dX12_goes_4 1 rfl rfl (pc2 := 5) rfl ?_
  obtain ⟨g1, hf⟩ := gd_some hf
  refine e_iald dX12_goes_5 sa_136 (inb_v g1) (pc2 := 6) rfl ?_
  obtain ⟨x2, ex2, hf⟩ := ltb_s hf
  refine e_istore_n dX12_goes_6 rfl (by decide) ex2.symm (ls' := [(0, .ref 101), (1, .int v1), (2, .int x2)]) [1, 2, 0] rfl (pc2 := 7) rfl ?_
  refine e_aload_n dX12_goes_7 0 rfl rfl (pc2 := 8) rfl ?_
  refine e_getR (r := 138) fl_X12_120 dX12_goes_8 so_101 (rs_101_48 s.2.2) (by decide) (pc2 := 11) rfl ?_
  refine e_iload_n dX12_goes_11 1 rfl rfl (pc2 := 12) rfl ?_
  obtain ⟨g3, hf⟩ := gd_some hf
  refine e_iald dX12_goes_12 sa_138 (inb_v g3) (pc2 := 13) rfl ?_
  obtain ⟨x4, ex4, hf⟩ := ltb_s hf
  refine e_istore_n dX12_goes_13 rfl (by decide) ex4.symm (ls' := [(0, .ref 101), (1, .int v1), (2, .int x2), (3, .int x4)]) [1, 2, 3, 0] rfl (pc2 := 14) rfl ?_
  refine e_iload_n dX12_goes_14 2 rfl rfl (pc2 := 15) rfl ?_
  refine e_iconst (x := 1) dX12_goes_15 (by decide) (pc2 := 16) rfl ?_
  refine e_icmp_gt (tgt := 45) dX12_goes_16 (by decide) (pc2 := 19) rfl (fun c5 => ?_) (fun c5 => ?_)
  · have hf := if_t c5 hf
    refine e_iload_n dX12_goes_45 2 rfl rfl (pc2 := 46) rfl ?_
    refine e_iconst (x := 2) dX12_goes_46 (by decide) (pc2 := 47) rfl ?_
    refine e_icmp_ne (tgt := 76) dX12_goes_47 (by decide) (pc2 := 50) rfl (fun c6 => ?_) (fun c6 => ?_)
    · have hf := if_f c6 hf
      refine e_iload_n dX12_goes_76 2 rfl rfl (pc2 := 77) rfl ?_
      refine e_iconst (x := 5) dX12_goes_77 (by decide) (pc2 := 78) rfl ?_
      refine e_icmp_ge (tgt := 98) dX12_goes_78 (by decide) (pc2 := 81) rfl (fun c7 => ?_) (fun c7 => ?_)
      · have hf := if_t c7 hf
        refine e_iload_n dX12_goes_98 2 rfl rfl (pc2 := 99) rfl ?_
        refine e_iconst (x := 5) dX12_goes_99 (by decide) (pc2 := 100) rfl ?_
        refine e_icmp_ne (tgt := 118) dX12_goes_100 (by decide) (pc2 := 103) rfl (fun c8 => ?_) (fun c8 => ?_)
        · have hf := if_f c8 hf
          refine e_aload_n dX12_goes_118 0 rfl rfl (pc2 := 119) rfl ?_
          obtain ⟨s10, hy9, hf⟩ := bnd_s hf
          refine e_callVn (t_X12_runs  s hy9) dX12_goes_119 cv_X12_528 rfl so_101 rc_11 (by decide) (by first | exact Nat.le_of_ble_eq_true rfl | simp [rva_cat, vc_i, vc_r, vc_l, vc_n]) nn0 rfl (pc2 := 122) rfl ?_
          refine e_aload_n dX12_goes_122 0 rfl rfl (pc2 := 123) rfl ?_
          refine e_dup dX12_goes_123 rfl (pc2 := 124) rfl ?_
          refine e_getI fl_X12_531 dX12_goes_124 so_101 (by decide) (pc2 := 127) rfl ?_
          refine e_aload_n dX12_goes_127 0 rfl rfl (pc2 := 128) rfl ?_
          obtain ⟨y11, hy11, hf⟩ := bnd_s hf
          refine e_callVs (t_X12_pence  s10 hy11) dX12_goes_128 cv_X12_534 rfl so_101 rc_11 (by decide) (by first | exact Nat.le_of_ble_eq_true rfl | simp [rva_cat, vc_i, vc_r, vc_l, vc_n]) nn0 rfl (pc2 := 131) rfl ?_
          refine e_iadd dX12_goes_131 (pc2 := 132) rfl ?_
          obtain ⟨s12, es12, hf⟩ := ltb_s hf
          refine e_putI fl_X12_531 dX12_goes_132 so_101 fn_11_74 (h2 := hp s12) (by rw [es12]; rfl) (pc2 := 135) rfl ?_
          refine e_aload_n dX12_goes_135 0 rfl rfl (pc2 := 136) rfl ?_
          refine e_dup dX12_goes_136 rfl (pc2 := 137) rfl ?_
          refine e_getI fl_X12_537 dX12_goes_137 so_101 (by decide) (pc2 := 140) rfl ?_
          refine e_aload_n dX12_goes_140 0 rfl rfl (pc2 := 141) rfl ?_
          obtain ⟨y13, hy13, hf⟩ := bnd_s hf
          refine e_callVs (t_X12_drunkInAll  s12 hy13) dX12_goes_141 cv_X12_540 rfl so_101 rc_11 (by decide) (by first | exact Nat.le_of_ble_eq_true rfl | simp [rva_cat, vc_i, vc_r, vc_l, vc_n]) nn0 rfl (pc2 := 144) rfl ?_
          refine e_iadd dX12_goes_144 (pc2 := 145) rfl ?_
          obtain ⟨s14, es14, hf⟩ := ltb_s hf
          refine e_putI fl_X12_537 dX12_goes_145 so_101 fn_11_75 (h2 := hp s14) (by rw [es14]; rfl) (pc2 := 148) rfl ?_
          refine e_aload_n dX12_goes_148 0 rfl rfl (pc2 := 149) rfl ?_
          obtain ⟨y15, hy15, hf⟩ := bnd_s hf
          refine e_callVs (t_X12_drunkInAll  s14 hy15) dX12_goes_149 cv_X12_540 rfl so_101 rc_11 (by decide) (by first | exact Nat.le_of_ble_eq_true rfl | simp [rva_cat, vc_i, vc_r, vc_l, vc_n]) nn0 rfl (pc2 := 152) rfl ?_
          refine e_if_le (tgt := 159) dX12_goes_152 (by decide) (pc2 := 155) rfl (fun c16 => ?_) (fun c16 => ?_)
          · have hf := if_t c16 hf
            refine e_iconst (x := 0) dX12_goes_159 (by decide) (pc2 := 160) rfl ?_
            cases hf
            exact e_zret (by decide) rfl dX12_goes_160
          · have hf := if_f c16 hf
            refine e_iconst (x := 1) dX12_goes_155 (by decide) (pc2 := 156) rfl ?_
            refine e_goto (tgt := 160) dX12_goes_156 (by decide) ?_
            cases hf
            exact e_zret (by decide) rfl dX12_goes_160
        · have hf := if_t c8 hf
          refine e_aload_n dX12_goes_103 0 rfl rfl (pc2 := 104) rfl ?_
          refine e_iconst (x := 4) dX12_goes_104 (by decide) (pc2 := 105) rfl ?_
          refine e_aload_n dX12_goes_105 0 rfl rfl (pc2 := 106) rfl ?_
          refine e_getR (r := 137) fl_X12_117 dX12_goes_106 so_101 (rs_101_47 s.2.2) (by decide) (pc2 := 109) rfl ?_
          refine e_iload_n dX12_goes_109 1 rfl rfl (pc2 := 110) rfl ?_
          obtain ⟨g17, hf⟩ := gd_some hf
          refine e_iald dX12_goes_110 sa_137 (inb_v g17) (pc2 := 111) rfl ?_
          refine e_iadd dX12_goes_111 (pc2 := 112) rfl ?_
          refine e_iload_n dX12_goes_112 3 rfl rfl (pc2 := 113) rfl ?_
          refine e_iconst (x := 0) dX12_goes_113 (by decide) (pc2 := 114) rfl ?_
          obtain ⟨y18, s19, hy18, hf⟩ := bnd2_s hf
          refine e_callVs (t_X12_changes (4 + (s.1 137 v1.toNatClampNeg)) x4 0 s hy18) dX12_goes_114 cv_X12_524 rfl so_101 rc_11 (by decide) (by first | exact Nat.le_of_ble_eq_true rfl | simp [rva_cat, vc_i, vc_r, vc_l, vc_n]) nn0 rfl (pc2 := 117) rfl ?_
          obtain ⟨g20, hf⟩ := gd_some hf
          cases hf
          exact e_zret (isb_n g20) rfl dX12_goes_117
      · have hf := if_f c7 hf
        refine e_aload_n dX12_goes_81 0 rfl rfl (pc2 := 82) rfl ?_
        refine e_iload_n dX12_goes_82 2 rfl rfl (pc2 := 83) rfl ?_
        refine e_iconst (x := 3) dX12_goes_83 (by decide) (pc2 := 84) rfl ?_
        refine e_icmp_ne (tgt := 91) dX12_goes_84 (by decide) (pc2 := 87) rfl (fun c21 => ?_) (fun c21 => ?_)
        · have hf := if_f c21 hf
          refine e_iconst (x := 3) dX12_goes_91 (by decide) (pc2 := 92) rfl ?_
          refine e_iload_n dX12_goes_92 3 rfl rfl (pc2 := 93) rfl ?_
          refine e_iconst (x := 0) dX12_goes_93 (by decide) (pc2 := 94) rfl ?_
          obtain ⟨y22, s23, hy22, hf⟩ := bnd2_s hf
          refine e_callVs (t_X12_changes 3 x4 0 s hy22) dX12_goes_94 cv_X12_524 rfl so_101 rc_11 (by decide) (by first | exact Nat.le_of_ble_eq_true rfl | simp [rva_cat, vc_i, vc_r, vc_l, vc_n]) nn0 rfl (pc2 := 97) rfl ?_
          obtain ⟨g24, hf⟩ := gd_some hf
          cases hf
          exact e_zret (isb_n g24) rfl dX12_goes_97
        · have hf := if_t c21 hf
          refine e_iconst (x := 2) dX12_goes_87 (by decide) (pc2 := 88) rfl ?_
          refine e_goto (tgt := 92) dX12_goes_88 (by decide) ?_
          refine e_iload_n dX12_goes_92 3 rfl rfl (pc2 := 93) rfl ?_
          refine e_iconst (x := 0) dX12_goes_93 (by decide) (pc2 := 94) rfl ?_
          obtain ⟨y25, s26, hy25, hf⟩ := bnd2_s hf
          refine e_callVs (t_X12_changes 2 x4 0 s hy25) dX12_goes_94 cv_X12_524 rfl so_101 rc_11 (by decide) (by first | exact Nat.le_of_ble_eq_true rfl | simp [rva_cat, vc_i, vc_r, vc_l, vc_n]) nn0 rfl (pc2 := 97) rfl ?_
          obtain ⟨g27, hf⟩ := gd_some hf
          cases hf
          exact e_zret (isb_n g27) rfl dX12_goes_97
    · have hf := if_t c6 hf
      refine e_iload_n dX12_goes_50 3 rfl rfl (pc2 := 51) rfl ?_
      refine e_aload_n dX12_goes_51 0 rfl rfl (pc2 := 52) rfl ?_
      refine e_getR (r := 103) fl_X12_13 dX12_goes_52 so_101 (rs_101_10 s.2.2) (by decide) (pc2 := 55) rfl ?_
      refine e_iconst (x := 3) dX12_goes_55 (by decide) (pc2 := 56) rfl ?_
      refine e_iald dX12_goes_56 sa_103 (inb_v (by decide)) (pc2 := 57) rfl ?_
      refine e_icmp_gt (tgt := 74) dX12_goes_57 (by decide) (pc2 := 60) rfl (fun c29 => ?_) (fun c29 => ?_)
      · have hf := if_t c29 hf
        refine e_iconst (x := 0) dX12_goes_74 (by decide) (pc2 := 75) rfl ?_
        cases hf
        exact e_zret (by decide) rfl dX12_goes_75
      · have hf := if_f c29 hf
        refine e_aload_n dX12_goes_60 0 rfl rfl (pc2 := 61) rfl ?_
        refine e_iconst (x := 1) dX12_goes_61 (by decide) (pc2 := 62) rfl ?_
        refine e_iload_n dX12_goes_62 3 rfl rfl (pc2 := 63) rfl ?_
        refine e_iconst (x := 0) dX12_goes_63 (by decide) (pc2 := 64) rfl ?_
        obtain ⟨y30, s31, hy30, hf⟩ := bnd2_s hf
        refine e_callVs (t_X12_changes 1 x4 0 s hy30) dX12_goes_64 cv_X12_524 rfl so_101 rc_11 (by decide) (by first | exact Nat.le_of_ble_eq_true rfl | simp [rva_cat, vc_i, vc_r, vc_l, vc_n]) nn0 rfl (pc2 := 67) rfl ?_
        refine e_if_eq (tgt := 74) dX12_goes_67 (by decide) (pc2 := 70) rfl (fun c32 => ?_) (fun c32 => ?_)
        · have hf := if_t c32 hf
          refine e_iconst (x := 0) dX12_goes_74 (by decide) (pc2 := 75) rfl ?_
          cases hf
          exact e_zret (by decide) rfl dX12_goes_75
        · have hf := if_f c32 hf
          refine e_iconst (x := 1) dX12_goes_70 (by decide) (pc2 := 71) rfl ?_
          refine e_goto (tgt := 75) dX12_goes_71 (by decide) ?_
          cases hf
          exact e_zret (by decide) rfl dX12_goes_75
  · have hf := if_f c5 hf
    refine e_aload_n dX12_goes_19 0 rfl rfl (pc2 := 20) rfl ?_
    refine e_iconst (x := 0) dX12_goes_20 (by decide) (pc2 := 21) rfl ?_
    refine e_aload_n dX12_goes_21 0 rfl rfl (pc2 := 22) rfl ?_
    refine e_aload_n dX12_goes_22 0 rfl rfl (pc2 := 23) rfl ?_
    refine e_getR (r := 137) fl_X12_117 dX12_goes_23 so_101 (rs_101_47 s.2.2) (by decide) (pc2 := 26) rfl ?_
    refine e_iload_n dX12_goes_26 1 rfl rfl (pc2 := 27) rfl ?_
    obtain ⟨g33, hf⟩ := gd_some hf
    refine e_iald dX12_goes_27 sa_137 (inb_v g33) (pc2 := 28) rfl ?_
    refine e_iload_n dX12_goes_28 2 rfl rfl (pc2 := 29) rfl ?_
    refine e_if_ne (tgt := 36) dX12_goes_29 (by decide) (pc2 := 32) rfl (fun c34 => ?_) (fun c34 => ?_)
    · have hf := if_f c34 hf
      refine e_iconst (x := 0) dX12_goes_36 (by decide) (pc2 := 37) rfl ?_
      refine e_callVs (t_X12_outThen (s.1 137 v1.toNatClampNeg) 0 s rfl) dX12_goes_37 cv_X12_520 rfl so_101 rc_11 (by decide) (by first | exact Nat.le_of_ble_eq_true rfl | simp [rva_cat, vc_i, vc_r, vc_l, vc_n]) nn0 rfl (pc2 := 40) rfl ?_
      refine e_iconst (x := 0) dX12_goes_40 (by decide) (pc2 := 41) rfl ?_
      obtain ⟨y35, s36, hy35, hf⟩ := bnd2_s hf
      refine e_callVs (t_X12_changes 0 (f_X12_outThen (s.1 137 v1.toNatClampNeg) 0 s) 0 s hy35) dX12_goes_41 cv_X12_524 rfl so_101 rc_11 (by decide) (by first | exact Nat.le_of_ble_eq_true rfl | simp [rva_cat, vc_i, vc_r, vc_l, vc_n]) nn0 rfl (pc2 := 44) rfl ?_
      obtain ⟨g37, hf⟩ := gd_some hf
      cases hf
      exact e_zret (isb_n g37) rfl dX12_goes_44
    · have hf := if_t c34 hf
      refine e_iconst (x := 1) dX12_goes_32 (by decide) (pc2 := 33) rfl ?_
      refine e_goto (tgt := 37) dX12_goes_33 (by decide) ?_
      refine e_callVs (t_X12_outThen (s.1 137 v1.toNatClampNeg) 1 s rfl) dX12_goes_37 cv_X12_520 rfl so_101 rc_11 (by decide) (by first | exact Nat.le_of_ble_eq_true rfl | simp [rva_cat, vc_i, vc_r, vc_l, vc_n]) nn0 rfl (pc2 := 40) rfl ?_
      refine e_iconst (x := 0) dX12_goes_40 (by decide) (pc2 := 41) rfl ?_
      obtain ⟨y38, s39, hy38, hf⟩ := bnd2_s hf
      refine e_callVs (t_X12_changes 0 (f_X12_outThen (s.1 137 v1.toNatClampNeg) 1 s) 0 s hy38) dX12_goes_41 cv_X12_524 rfl so_101 rc_11 (by decide) (by first | exact Nat.le_of_ble_eq_true rfl | simp [rva_cat, vc_i, vc_r, vc_l, vc_n]) nn0 rfl (pc2 := 44) rfl ?_
      obtain ⟨g40, hf⟩ := gd_some hf
      cases hf
      exact e_zret (isb_n g40) rfl dX12_goes_44
abbrev DDX12_judged : Nat := 8
def f_X12_judged_l48b (v1 : Int32) (v2 : Int32) (v3 : Int32) (k48 : Int32 → Int32 → HS → Option (Int32 × HS)) (k78 : Int32 → HS → Option (Int32 × HS)) (s : HS) : Option (Int32 × HS) :=
  (if (s.1 135 0) ≤ v3 then k78 v2 s else bnd2 (f_X12_goes v3 s) fun y11 s12 => (if y11 = 0 then (if 0 ≤ v2 then ltb (v3 + 1) fun x16 => k48 v2 x16 s12 else ltb (v3 + 1) fun x17 => k48 v3 x17 s12) else ltb (v3 + 1) fun x14 => k48 v2 x14 s12))
set_option maxRecDepth 20000 in
set_option maxHeartbeats 2000000 in
theorem t_X12_judged_l48b (v1 : Int32) (v2 : Int32) (v3 : Int32) (s : HS) {x : Int32} {t : HS} (k48 : Int32 → Int32 → HS → Option (Int32 × HS)) (hk48 : ∀ (a2 : Int32) (a3 : Int32) (s : HS), k48 a2 a3 s = some (x, t) → Ev DDX12_judged miX12_judged NF (some (.int x)) NF (hp t) 48 NF [(0, .ref 101), (1, .int v1), (2, .int a2), (3, .int a3)] [] (hp s)) (k78 : Int32 → HS → Option (Int32 × HS)) (hk78 : ∀ (a2 : Int32) (s : HS), k78 a2 s = some (x, t) → Ev DDX12_judged miX12_judged NF (some (.int x)) NF (hp t) 78 NF [(0, .ref 101), (1, .int v1), (2, .int a2)] [] (hp s)) (hf : f_X12_judged_l48b v1 v2 v3 k48 k78 s = some (x, t)) : Ev DDX12_judged miX12_judged NF (some (.int x)) NF (hp t) 48 NF [(0, .ref 101), (1, .int v1), (2, .int v2), (3, .int v3)] [] (hp s) := by
  refine e_iload_n dX12_judged_48 3 rfl rfl (pc2 := 49) rfl ?_
  refine e_aload_n dX12_judged_49 0 rfl rfl (pc2 := 50) rfl ?_
  refine e_getR (r := 135) fl_X12_111 dX12_judged_50 so_101 (rs_101_45 s.2.2) (by decide) (pc2 := 53) rfl ?_
  refine e_iconst (x := 0) dX12_judged_53 (by decide) (pc2 := 54) rfl ?_
  refine e_iald dX12_judged_54 sa_135 (inb_v (by decide)) (pc2 := 55) rfl ?_
  refine e_icmp_ge (tgt := 78) dX12_judged_55 (by decide) (pc2 := 58) rfl (fun c10 => ?_) (fun c10 => ?_)
  · have hf := if_t c10 hf
    refine ev_sub [0, 1, 2] rfl ?_
    exact hk78 v2 s hf
  · have hf := if_f c10 hf
    refine e_aload_n dX12_judged_58 0 rfl rfl (pc2 := 59) rfl ?_
    refine e_iload_n dX12_judged_59 3 rfl rfl (pc2 := 60) rfl ?_
    obtain ⟨y11, s12, hy11, hf⟩ := bnd2_s hf
    refine e_callVs (t_X12_goes v3 s hy11) dX12_judged_60 cv_X12_543 rfl so_101 rc_11 (by decide) (by first | exact Nat.le_of_ble_eq_true rfl | simp [rva_cat, vc_i, vc_r, vc_l, vc_n]) nn0 rfl (pc2 := 63) rfl ?_
    refine e_if_ne (tgt := 72) dX12_judged_63 (by decide) (pc2 := 66) rfl (fun c13 => ?_) (fun c13 => ?_)
    · have hf := if_f c13 hf
      obtain ⟨x14, ex14, hf⟩ := ltb_s hf
      refine e_iinc dX12_judged_72 3 rfl (c9 := 1) (by decide) ex14.symm (by decide) (ls' := [(0, .ref 101), (1, .int v1), (2, .int v2), (3, .int x14)]) [1, 2, 3, 0] rfl (pc2 := 75) rfl ?_
      refine e_goto (tgt := 48) dX12_judged_75 (by decide) ?_
      exact hk48 v2 x14 s12 hf
    · have hf := if_t c13 hf
      refine e_iload_n dX12_judged_66 2 rfl rfl (pc2 := 67) rfl ?_
      refine e_if_ge (tgt := 72) dX12_judged_67 (by decide) (pc2 := 70) rfl (fun c15 => ?_) (fun c15 => ?_)
      · have hf := if_t c15 hf
        obtain ⟨x16, ex16, hf⟩ := ltb_s hf
        refine e_iinc dX12_judged_72 3 rfl (c9 := 1) (by decide) ex16.symm (by decide) (ls' := [(0, .ref 101), (1, .int v1), (2, .int v2), (3, .int x16)]) [1, 2, 3, 0] rfl (pc2 := 75) rfl ?_
        refine e_goto (tgt := 48) dX12_judged_75 (by decide) ?_
        exact hk48 v2 x16 s12 hf
      · have hf := if_f c15 hf
        refine e_iload_n dX12_judged_70 3 rfl rfl (pc2 := 71) rfl ?_
        refine e_istore_n dX12_judged_71 rfl (by decide) rfl (ls' := [(0, .ref 101), (1, .int v1), (2, .int v3), (3, .int v3)]) [1, 2, 0, 3] rfl (pc2 := 72) rfl ?_
        obtain ⟨x17, ex17, hf⟩ := ltb_s hf
        refine e_iinc dX12_judged_72 3 rfl (c9 := 1) (by decide) ex17.symm (by decide) (ls' := [(0, .ref 101), (1, .int v1), (2, .int v3), (3, .int x17)]) [1, 2, 3, 0] rfl (pc2 := 75) rfl ?_
        refine e_goto (tgt := 48) dX12_judged_75 (by decide) ?_
        exact hk48 v3 x17 s12 hf
def f_X12_judged_l48 (v1 : Int32) (k78 : Int32 → HS → Option (Int32 × HS)) : Nat → Int32 → Int32 → HS → Option (Int32 × HS)
  | 0, _, _, _ => none
  | n + 1, v2, v3, s => f_X12_judged_l48b v1 v2 v3 (f_X12_judged_l48 v1 k78 n) k78 s
set_option maxRecDepth 20000 in
set_option maxHeartbeats 2000000 in
theorem t_X12_judged_l48 (v1 : Int32) {x : Int32} {t : HS} (k78 : Int32 → HS → Option (Int32 × HS)) (hk78 : ∀ (a2 : Int32) (s : HS), k78 a2 s = some (x, t) → Ev DDX12_judged miX12_judged NF (some (.int x)) NF (hp t) 78 NF [(0, .ref 101), (1, .int v1), (2, .int a2)] [] (hp s)) : ∀ (n : Nat) (v2 : Int32) (v3 : Int32) (s : HS), f_X12_judged_l48 v1 k78 n v2 v3 s = some (x, t) → Ev DDX12_judged miX12_judged NF (some (.int x)) NF (hp t) 48 NF [(0, .ref 101), (1, .int v1), (2, .int v2), (3, .int v3)] [] (hp s) := by
  intro n
  induction n with
  | zero =>
    intro v2 v3 s hf
    have hf : none = some (x, t) := hf
    cases hf
  | succ n ih =>
    intro v2 v3 s hf
    exact t_X12_judged_l48b v1 v2 v3  s _ ih _ hk78 hf
def f_X12_judged (v1 : Int32) (s : HS) : Option (Int32 × HS) :=
  ltb (sI s 101 0 0) fun s1 => (if (f_X12_within v1 0 2 s1) = 0 then some ((-2), s1) else bnd (f_X12_copies 145 0 146 0 s1) fun s4 => bnd (f_X12_fresh s4) fun s6 => ltb (sI s6 101 74 0) fun s7 => ltb (sI s7 101 75 0) fun s8 => f_X12_judged_l48 v1 (fun v18 s19 => bnd (f_X12_copies 146 0 145 0 s19) fun s21 => (if v1 = 0 then some (v18, s21) else (if v1 = 1 then some (s21.1 101 74, s21) else some (s21.1 101 75, s21)))) FU (-1) 0 s8)
set_option maxRecDepth 20000 in
set_option maxHeartbeats 2000000 in
theorem t_X12_judged (v1 : Int32) (s : HS) {x : Int32} {t : HS} (hf : f_X12_judged  v1 s = some (x, t)) : Mt DDX12_judged miX12_judged [.ref 101, .int v1] NF (hp s) (some (.int x)) NF (hp t) := by
  refine Mt.of (by decide +kernel) (Nat.le_refl _) (Nat.le_of_ble_eq_true rfl) ?_
  show Ev DDX12_judged miX12_judged NF (some (.int x)) NF (hp t) 0 NF [(0, .ref 101), (1, .int v1)] [] (hp s)
  unfold f_X12_judged at hf
  refine e_aload_n dX12_judged_0 0 rfl rfl (pc2 := 1) rfl ?_
  refine e_iconst (x := 0) dX12_judged_1 (by decide) (pc2 := 2) rfl ?_
  obtain ⟨s1, es1, hf⟩ := ltb_s hf
  refine e_putI fl_X12_194 dX12_judged_2 so_101 fn_11_0 (h2 := hp s1) (by rw [es1]; rfl) (pc2 := 5) rfl ?_
  refine e_iload_n dX12_judged_5 1 rfl rfl (pc2 := 6) rfl ?_
  refine e_iconst (x := 0) dX12_judged_6 (by decide) (pc2 := 7) rfl ?_
  refine e_iconst (x := 2) dX12_judged_7 (by decide) (pc2 := 8) rfl ?_
  refine e_callSs (t_X12_within v1 0 2 s1 rfl) dX12_judged_8 cs_X12_343 rfl (by decide) (by first | exact Nat.le_of_ble_eq_true rfl | simp [rva_cat, vc_i, vc_r, vc_l, vc_n]) nn0 rfl (pc2 := 11) rfl ?_
  refine e_if_ne (tgt := 17) dX12_judged_11 (by decide) (pc2 := 14) rfl (fun c2 => ?_) (fun c2 => ?_)
  · have hf := if_f c2 hf
    refine e_aload_n dX12_judged_17 0 rfl rfl (pc2 := 18) rfl ?_
    refine e_getR (r := 145) fl_X12_141 dX12_judged_18 so_101 (rs_101_55 s1.2.2) (by decide) (pc2 := 21) rfl ?_
    refine e_iconst (x := 0) dX12_judged_21 (by decide) (pc2 := 22) rfl ?_
    refine e_aload_n dX12_judged_22 0 rfl rfl (pc2 := 23) rfl ?_
    refine e_getR (r := 146) fl_X12_144 dX12_judged_23 so_101 (rs_101_56 s1.2.2) (by decide) (pc2 := 26) rfl ?_
    refine e_iconst (x := 0) dX12_judged_26 (by decide) (pc2 := 27) rfl ?_
    obtain ⟨s4, hy3, hf⟩ := bnd_s hf
    refine e_callSn (t_X12_copies 145 (by decide) 0 146 (by decide) 0 s1 hy3) dX12_judged_27 cs_X12_513 rfl (by decide) (by first | exact Nat.le_of_ble_eq_true rfl | simp [rva_cat, vc_i, vc_r, vc_l, vc_n]) nn0 rfl (pc2 := 30) rfl ?_
    refine e_aload_n dX12_judged_30 0 rfl rfl (pc2 := 31) rfl ?_
    obtain ⟨s6, hy5, hf⟩ := bnd_s hf
    refine e_callVn (t_X12_fresh  s4 hy5) dX12_judged_31 cv_X12_191 rfl so_101 rc_11 (by decide) (by first | exact Nat.le_of_ble_eq_true rfl | simp [rva_cat, vc_i, vc_r, vc_l, vc_n]) nn0 rfl (pc2 := 34) rfl ?_
    refine e_aload_n dX12_judged_34 0 rfl rfl (pc2 := 35) rfl ?_
    refine e_iconst (x := 0) dX12_judged_35 (by decide) (pc2 := 36) rfl ?_
    obtain ⟨s7, es7, hf⟩ := ltb_s hf
    refine e_putI fl_X12_531 dX12_judged_36 so_101 fn_11_74 (h2 := hp s7) (by rw [es7]; rfl) (pc2 := 39) rfl ?_
    refine e_aload_n dX12_judged_39 0 rfl rfl (pc2 := 40) rfl ?_
    refine e_iconst (x := 0) dX12_judged_40 (by decide) (pc2 := 41) rfl ?_
    obtain ⟨s8, es8, hf⟩ := ltb_s hf
    refine e_putI fl_X12_537 dX12_judged_41 so_101 fn_11_75 (h2 := hp s8) (by rw [es8]; rfl) (pc2 := 44) rfl ?_
    refine e_iconst (x := (-1)) dX12_judged_44 (by decide) (pc2 := 45) rfl ?_
    refine e_istore_n dX12_judged_45 rfl (by decide) rfl (ls' := [(0, .ref 101), (1, .int v1), (2, .int (-1))]) [1, 2, 0] rfl (pc2 := 46) rfl ?_
    refine e_iconst (x := 0) dX12_judged_46 (by decide) (pc2 := 47) rfl ?_
    refine e_istore_n dX12_judged_47 rfl (by decide) rfl (ls' := [(0, .ref 101), (1, .int v1), (2, .int (-1)), (3, .int 0)]) [1, 2, 3, 0] rfl (pc2 := 48) rfl ?_
    refine t_X12_judged_l48 v1 _ ?_ FU (-1) 0 s8 hf
    · intro v18 s19 hf
      refine e_aload_n dX12_judged_78 0 rfl rfl (pc2 := 79) rfl ?_
      refine e_getR (r := 146) fl_X12_144 dX12_judged_79 so_101 (rs_101_56 s19.2.2) (by decide) (pc2 := 82) rfl ?_
      refine e_iconst (x := 0) dX12_judged_82 (by decide) (pc2 := 83) rfl ?_
      refine e_aload_n dX12_judged_83 0 rfl rfl (pc2 := 84) rfl ?_
      refine e_getR (r := 145) fl_X12_141 dX12_judged_84 so_101 (rs_101_55 s19.2.2) (by decide) (pc2 := 87) rfl ?_
      refine e_iconst (x := 0) dX12_judged_87 (by decide) (pc2 := 88) rfl ?_
      obtain ⟨s21, hy20, hf⟩ := bnd_s hf
      refine e_callSn (t_X12_copies 146 (by decide) 0 145 (by decide) 0 s19 hy20) dX12_judged_88 cs_X12_513 rfl (by decide) (by first | exact Nat.le_of_ble_eq_true rfl | simp [rva_cat, vc_i, vc_r, vc_l, vc_n]) nn0 rfl (pc2 := 91) rfl ?_
      refine e_iload_n dX12_judged_91 1 rfl rfl (pc2 := 92) rfl ?_
      refine e_if_ne (tgt := 99) dX12_judged_92 (by decide) (pc2 := 95) rfl (fun c22 => ?_) (fun c22 => ?_)
      · have hf := if_f c22 hf
        refine e_iload_n dX12_judged_99 1 rfl rfl (pc2 := 100) rfl ?_
        refine e_iconst (x := 1) dX12_judged_100 (by decide) (pc2 := 101) rfl ?_
        refine e_icmp_ne (tgt := 111) dX12_judged_101 (by decide) (pc2 := 104) rfl (fun c23 => ?_) (fun c23 => ?_)
        · have hf := if_f c23 hf
          refine e_aload_n dX12_judged_111 0 rfl rfl (pc2 := 112) rfl ?_
          refine e_getI fl_X12_537 dX12_judged_112 so_101 (by decide) (pc2 := 115) rfl ?_
          cases hf
          exact e_iret rfl dX12_judged_115
        · have hf := if_t c23 hf
          refine e_aload_n dX12_judged_104 0 rfl rfl (pc2 := 105) rfl ?_
          refine e_getI fl_X12_531 dX12_judged_105 so_101 (by decide) (pc2 := 108) rfl ?_
          refine e_goto (tgt := 115) dX12_judged_108 (by decide) ?_
          cases hf
          exact e_iret rfl dX12_judged_115
      · have hf := if_t c22 hf
        refine e_iload_n dX12_judged_95 2 rfl rfl (pc2 := 96) rfl ?_
        refine e_goto (tgt := 115) dX12_judged_96 (by decide) ?_
        cases hf
        exact e_iret rfl dX12_judged_115
  · have hf := if_t c2 hf
    refine e_bipush (x := (-2)) dX12_judged_14 (by decide) (pc2 := 16) rfl ?_
    cases hf
    exact e_iret rfl dX12_judged_16
abbrev DDX12_served : Nat := 7
def f_X12_served (v1 : Int32) (v2 : Int32) (s : HS) : Option (Int32 × HS) :=
  ltb (sI s 101 0 0) fun s1 => (if (f_X12_isBuyer v1 s1) = 0 then some ((-2), s1) else (if (((s1.1 145 0) >>> (v1 &&& 31)) &&& (1 : Int32)) = 0 then some ((-2), s1) else (if (f_X12_within v2 0 4 s1) = 0 then some ((-2), s1) else bnd (f_X12_runs s1) fun s7 => (if 2 ≤ v2 then (if v2 = 2 then gd (inb v1 6) (some (s7.1 152 v1.toNatClampNeg, s7)) else (if v2 = 3 then gd (inb v1 6) (some (s7.1 153 v1.toNatClampNeg, s7)) else gd (inb v1 6) (some (s7.1 154 v1.toNatClampNeg, s7)))) else (if v2 = 0 then gd (inb v1 6) (some (s7.1 150 v1.toNatClampNeg, s7)) else gd (inb v1 6) (some (s7.1 151 v1.toNatClampNeg, s7)))))))
set_option maxRecDepth 20000 in
set_option maxHeartbeats 2000000 in
theorem t_X12_served (v1 : Int32) (v2 : Int32) (s : HS) {x : Int32} {t : HS} (hf : f_X12_served  v1 v2 s = some (x, t)) : Mt DDX12_served miX12_served [.ref 101, .int v1, .int v2] NF (hp s) (some (.int x)) NF (hp t) := by
  refine Mt.of (by decide +kernel) (Nat.le_refl _) (Nat.le_of_ble_eq_true rfl) ?_
  show Ev DDX12_served miX12_served NF (some (.int x)) NF (hp t) 0 NF [(0, .ref 101), (1, .int v1), (2, .int v2)] [] (hp s)
  unfold f_X12_served at hf
  refine e_aload_n dX12_served_0 0 rfl rfl (pc2 := 1) rfl ?_
  refine e_iconst (x := 0) dX12_served_1 (by decide) (pc2 := 2) rfl ?_
  obtain ⟨s1, es1, hf⟩ := ltb_s hf
  refine e_putI fl_X12_194 dX12_served_2 so_101 fn_11_0 (h2 := hp s1) (by rw [es1]; rfl) (pc2 := 5) rfl ?_
  refine e_aload_n dX12_served_5 0 rfl rfl (pc2 := 6) rfl ?_
  refine e_iload_n dX12_served_6 1 rfl rfl (pc2 := 7) rfl ?_
  refine e_callVs (t_X12_isBuyer v1 s1 rfl) dX12_served_7 cv_X12_510 rfl so_101 rc_11 (by decide) (by first | exact Nat.le_of_ble_eq_true rfl | simp [rva_cat, vc_i, vc_r, vc_l, vc_n]) nn0 rfl (pc2 := 10) rfl ?_
  refine e_if_eq (tgt := 35) dX12_served_10 (by decide) (pc2 := 13) rfl (fun c2 => ?_) (fun c2 => ?_)
  · have hf := if_t c2 hf
    refine e_bipush (x := (-2)) dX12_served_35 (by decide) (pc2 := 37) rfl ?_
    cases hf
    exact e_iret rfl dX12_served_37
  · have hf := if_f c2 hf
    refine e_aload_n dX12_served_13 0 rfl rfl (pc2 := 14) rfl ?_
    refine e_getR (r := 145) fl_X12_141 dX12_served_14 so_101 (rs_101_55 s1.2.2) (by decide) (pc2 := 17) rfl ?_
    refine e_iconst (x := 0) dX12_served_17 (by decide) (pc2 := 18) rfl ?_
    refine e_iald dX12_served_18 sa_145 (inb_v (by decide)) (pc2 := 19) rfl ?_
    refine e_iload_n dX12_served_19 1 rfl rfl (pc2 := 20) rfl ?_
    refine e_ishr dX12_served_20 (pc2 := 21) rfl ?_
    refine e_iconst (x := 1) dX12_served_21 (by decide) (pc2 := 22) rfl ?_
    refine e_iand dX12_served_22 (pc2 := 23) rfl ?_
    refine e_if_eq (tgt := 35) dX12_served_23 (by decide) (pc2 := 26) rfl (fun c4 => ?_) (fun c4 => ?_)
    · have hf := if_t c4 hf
      refine e_bipush (x := (-2)) dX12_served_35 (by decide) (pc2 := 37) rfl ?_
      cases hf
      exact e_iret rfl dX12_served_37
    · have hf := if_f c4 hf
      refine e_iload_n dX12_served_26 2 rfl rfl (pc2 := 27) rfl ?_
      refine e_iconst (x := 0) dX12_served_27 (by decide) (pc2 := 28) rfl ?_
      refine e_iconst (x := 4) dX12_served_28 (by decide) (pc2 := 29) rfl ?_
      refine e_callSs (t_X12_within v2 0 4 s1 rfl) dX12_served_29 cs_X12_343 rfl (by decide) (by first | exact Nat.le_of_ble_eq_true rfl | simp [rva_cat, vc_i, vc_r, vc_l, vc_n]) nn0 rfl (pc2 := 32) rfl ?_
      refine e_if_ne (tgt := 38) dX12_served_32 (by decide) (pc2 := 35) rfl (fun c5 => ?_) (fun c5 => ?_)
      · have hf := if_f c5 hf
        refine e_aload_n dX12_served_38 0 rfl rfl (pc2 := 39) rfl ?_
        obtain ⟨s7, hy6, hf⟩ := bnd_s hf
        refine e_callVn (t_X12_runs  s1 hy6) dX12_served_39 cv_X12_528 rfl so_101 rc_11 (by decide) (by first | exact Nat.le_of_ble_eq_true rfl | simp [rva_cat, vc_i, vc_r, vc_l, vc_n]) nn0 rfl (pc2 := 42) rfl ?_
        refine e_iload_n dX12_served_42 2 rfl rfl (pc2 := 43) rfl ?_
        refine e_iconst (x := 2) dX12_served_43 (by decide) (pc2 := 44) rfl ?_
        refine e_icmp_ge (tgt := 67) dX12_served_44 (by decide) (pc2 := 47) rfl (fun c8 => ?_) (fun c8 => ?_)
        · have hf := if_t c8 hf
          refine e_iload_n dX12_served_67 2 rfl rfl (pc2 := 68) rfl ?_
          refine e_iconst (x := 2) dX12_served_68 (by decide) (pc2 := 69) rfl ?_
          refine e_icmp_ne (tgt := 81) dX12_served_69 (by decide) (pc2 := 72) rfl (fun c9 => ?_) (fun c9 => ?_)
          · have hf := if_f c9 hf
            refine e_iload_n dX12_served_81 2 rfl rfl (pc2 := 82) rfl ?_
            refine e_iconst (x := 3) dX12_served_82 (by decide) (pc2 := 83) rfl ?_
            refine e_icmp_ne (tgt := 95) dX12_served_83 (by decide) (pc2 := 86) rfl (fun c10 => ?_) (fun c10 => ?_)
            · have hf := if_f c10 hf
              refine e_aload_n dX12_served_95 0 rfl rfl (pc2 := 96) rfl ?_
              refine e_getR (r := 154) fl_X12_175 dX12_served_96 so_101 (rs_101_71 s7.2.2) (by decide) (pc2 := 99) rfl ?_
              refine e_iload_n dX12_served_99 1 rfl rfl (pc2 := 100) rfl ?_
              obtain ⟨g11, hf⟩ := gd_some hf
              refine e_iald dX12_served_100 sa_154 (inb_v g11) (pc2 := 101) rfl ?_
              cases hf
              exact e_iret rfl dX12_served_101
            · have hf := if_t c10 hf
              refine e_aload_n dX12_served_86 0 rfl rfl (pc2 := 87) rfl ?_
              refine e_getR (r := 153) fl_X12_172 dX12_served_87 so_101 (rs_101_70 s7.2.2) (by decide) (pc2 := 90) rfl ?_
              refine e_iload_n dX12_served_90 1 rfl rfl (pc2 := 91) rfl ?_
              obtain ⟨g12, hf⟩ := gd_some hf
              refine e_iald dX12_served_91 sa_153 (inb_v g12) (pc2 := 92) rfl ?_
              refine e_goto (tgt := 101) dX12_served_92 (by decide) ?_
              cases hf
              exact e_iret rfl dX12_served_101
          · have hf := if_t c9 hf
            refine e_aload_n dX12_served_72 0 rfl rfl (pc2 := 73) rfl ?_
            refine e_getR (r := 152) fl_X12_169 dX12_served_73 so_101 (rs_101_69 s7.2.2) (by decide) (pc2 := 76) rfl ?_
            refine e_iload_n dX12_served_76 1 rfl rfl (pc2 := 77) rfl ?_
            obtain ⟨g13, hf⟩ := gd_some hf
            refine e_iald dX12_served_77 sa_152 (inb_v g13) (pc2 := 78) rfl ?_
            refine e_goto (tgt := 101) dX12_served_78 (by decide) ?_
            cases hf
            exact e_iret rfl dX12_served_101
        · have hf := if_f c8 hf
          refine e_iload_n dX12_served_47 2 rfl rfl (pc2 := 48) rfl ?_
          refine e_if_ne (tgt := 60) dX12_served_48 (by decide) (pc2 := 51) rfl (fun c14 => ?_) (fun c14 => ?_)
          · have hf := if_f c14 hf
            refine e_aload_n dX12_served_60 0 rfl rfl (pc2 := 61) rfl ?_
            refine e_getR (r := 151) fl_X12_166 dX12_served_61 so_101 (rs_101_68 s7.2.2) (by decide) (pc2 := 64) rfl ?_
            refine e_iload_n dX12_served_64 1 rfl rfl (pc2 := 65) rfl ?_
            obtain ⟨g15, hf⟩ := gd_some hf
            refine e_iald dX12_served_65 sa_151 (inb_v g15) (pc2 := 66) rfl ?_
            cases hf
            exact e_iret rfl dX12_served_66
          · have hf := if_t c14 hf
            refine e_aload_n dX12_served_51 0 rfl rfl (pc2 := 52) rfl ?_
            refine e_getR (r := 150) fl_X12_163 dX12_served_52 so_101 (rs_101_67 s7.2.2) (by decide) (pc2 := 55) rfl ?_
            refine e_iload_n dX12_served_55 1 rfl rfl (pc2 := 56) rfl ?_
            obtain ⟨g16, hf⟩ := gd_some hf
            refine e_iald dX12_served_56 sa_150 (inb_v g16) (pc2 := 57) rfl ?_
            refine e_goto (tgt := 66) dX12_served_57 (by decide) ?_
            cases hf
            exact e_iret rfl dX12_served_66
      · have hf := if_t c5 hf
        refine e_bipush (x := (-2)) dX12_served_35 (by decide) (pc2 := 37) rfl ?_
        cases hf
        exact e_iret rfl dX12_served_37
abbrev DDX12_round : Nat := 7
def f_X12_round (v1 : Int32) (s : HS) : Option (Int32 × HS) :=
  ltb (sI s 101 0 0) fun s1 => (if (f_X12_within v1 0 4 s1) = 0 then some ((-1), s1) else bnd (f_X12_runs s1) fun s4 => (if 2 ≤ v1 then (if v1 = 2 then bnd (f_X12_leftInAll s4) fun y10 => some (y10, s4) else (if v1 = 3 then bnd (f_X12_behindInAll s4) fun y9 => some (y9, s4) else bnd (f_X12_servedBy 100000 s4) fun y8 => some (y8, s4))) else (if v1 = 0 then bnd (f_X12_pence s4) fun y13 => some (y13, s4) else bnd (f_X12_drunkInAll s4) fun y12 => some (y12, s4))))
set_option maxRecDepth 20000 in
set_option maxHeartbeats 2000000 in
theorem t_X12_round (v1 : Int32) (s : HS) {x : Int32} {t : HS} (hf : f_X12_round  v1 s = some (x, t)) : Mt DDX12_round miX12_round [.ref 101, .int v1] NF (hp s) (some (.int x)) NF (hp t) := by
  refine Mt.of (by decide +kernel) (Nat.le_refl _) (Nat.le_of_ble_eq_true rfl) ?_
  show Ev DDX12_round miX12_round NF (some (.int x)) NF (hp t) 0 NF [(0, .ref 101), (1, .int v1)] [] (hp s)
  unfold f_X12_round at hf
  refine e_aload_n dX12_round_0 0 rfl rfl (pc2 := 1) rfl ?_
  refine e_iconst (x := 0) dX12_round_1 (by decide) (pc2 := 2) rfl ?_
  obtain ⟨s1, es1, hf⟩ := ltb_s hf
  refine e_putI fl_X12_194 dX12_round_2 so_101 fn_11_0 (h2 := hp s1) (by rw [es1]; rfl) (pc2 := 5) rfl ?_
  refine e_iload_n dX12_round_5 1 rfl rfl (pc2 := 6) rfl ?_
  refine e_iconst (x := 0) dX12_round_6 (by decide) (pc2 := 7) rfl ?_
  refine e_iconst (x := 4) dX12_round_7 (by decide) (pc2 := 8) rfl ?_
  refine e_callSs (t_X12_within v1 0 4 s1 rfl) dX12_round_8 cs_X12_343 rfl (by decide) (by first | exact Nat.le_of_ble_eq_true rfl | simp [rva_cat, vc_i, vc_r, vc_l, vc_n]) nn0 rfl (pc2 := 11) rfl ?_
  refine e_if_ne (tgt := 16) dX12_round_11 (by decide) (pc2 := 14) rfl (fun c2 => ?_) (fun c2 => ?_)
  · have hf := if_f c2 hf
    refine e_aload_n dX12_round_16 0 rfl rfl (pc2 := 17) rfl ?_
    obtain ⟨s4, hy3, hf⟩ := bnd_s hf
    refine e_callVn (t_X12_runs  s1 hy3) dX12_round_17 cv_X12_528 rfl so_101 rc_11 (by decide) (by first | exact Nat.le_of_ble_eq_true rfl | simp [rva_cat, vc_i, vc_r, vc_l, vc_n]) nn0 rfl (pc2 := 20) rfl ?_
    refine e_iload_n dX12_round_20 1 rfl rfl (pc2 := 21) rfl ?_
    refine e_iconst (x := 2) dX12_round_21 (by decide) (pc2 := 22) rfl ?_
    refine e_icmp_ge (tgt := 41) dX12_round_22 (by decide) (pc2 := 25) rfl (fun c5 => ?_) (fun c5 => ?_)
    · have hf := if_t c5 hf
      refine e_iload_n dX12_round_41 1 rfl rfl (pc2 := 42) rfl ?_
      refine e_iconst (x := 2) dX12_round_42 (by decide) (pc2 := 43) rfl ?_
      refine e_icmp_ne (tgt := 53) dX12_round_43 (by decide) (pc2 := 46) rfl (fun c6 => ?_) (fun c6 => ?_)
      · have hf := if_f c6 hf
        refine e_iload_n dX12_round_53 1 rfl rfl (pc2 := 54) rfl ?_
        refine e_iconst (x := 3) dX12_round_54 (by decide) (pc2 := 55) rfl ?_
        refine e_icmp_ne (tgt := 65) dX12_round_55 (by decide) (pc2 := 58) rfl (fun c7 => ?_) (fun c7 => ?_)
        · have hf := if_f c7 hf
          refine e_aload_n dX12_round_65 0 rfl rfl (pc2 := 66) rfl ?_
          refine e_ldcw dX12_round_66 lk_X12_552 (pc2 := 69) rfl ?_
          obtain ⟨y8, hy8, hf⟩ := bnd_s hf
          refine e_callVs (t_X12_servedBy 100000 s4 hy8) dX12_round_69 cv_X12_553 rfl so_101 rc_11 (by decide) (by first | exact Nat.le_of_ble_eq_true rfl | simp [rva_cat, vc_i, vc_r, vc_l, vc_n]) nn0 rfl (pc2 := 72) rfl ?_
          cases hf
          exact e_iret rfl dX12_round_72
        · have hf := if_t c7 hf
          refine e_aload_n dX12_round_58 0 rfl rfl (pc2 := 59) rfl ?_
          obtain ⟨y9, hy9, hf⟩ := bnd_s hf
          refine e_callVs (t_X12_behindInAll  s4 hy9) dX12_round_59 cv_X12_549 rfl so_101 rc_11 (by decide) (by first | exact Nat.le_of_ble_eq_true rfl | simp [rva_cat, vc_i, vc_r, vc_l, vc_n]) nn0 rfl (pc2 := 62) rfl ?_
          refine e_goto (tgt := 72) dX12_round_62 (by decide) ?_
          cases hf
          exact e_iret rfl dX12_round_72
      · have hf := if_t c6 hf
        refine e_aload_n dX12_round_46 0 rfl rfl (pc2 := 47) rfl ?_
        obtain ⟨y10, hy10, hf⟩ := bnd_s hf
        refine e_callVs (t_X12_leftInAll  s4 hy10) dX12_round_47 cv_X12_546 rfl so_101 rc_11 (by decide) (by first | exact Nat.le_of_ble_eq_true rfl | simp [rva_cat, vc_i, vc_r, vc_l, vc_n]) nn0 rfl (pc2 := 50) rfl ?_
        refine e_goto (tgt := 72) dX12_round_50 (by decide) ?_
        cases hf
        exact e_iret rfl dX12_round_72
    · have hf := if_f c5 hf
      refine e_iload_n dX12_round_25 1 rfl rfl (pc2 := 26) rfl ?_
      refine e_if_ne (tgt := 36) dX12_round_26 (by decide) (pc2 := 29) rfl (fun c11 => ?_) (fun c11 => ?_)
      · have hf := if_f c11 hf
        refine e_aload_n dX12_round_36 0 rfl rfl (pc2 := 37) rfl ?_
        obtain ⟨y12, hy12, hf⟩ := bnd_s hf
        refine e_callVs (t_X12_drunkInAll  s4 hy12) dX12_round_37 cv_X12_540 rfl so_101 rc_11 (by decide) (by first | exact Nat.le_of_ble_eq_true rfl | simp [rva_cat, vc_i, vc_r, vc_l, vc_n]) nn0 rfl (pc2 := 40) rfl ?_
        cases hf
        exact e_iret rfl dX12_round_40
      · have hf := if_t c11 hf
        refine e_aload_n dX12_round_29 0 rfl rfl (pc2 := 30) rfl ?_
        obtain ⟨y13, hy13, hf⟩ := bnd_s hf
        refine e_callVs (t_X12_pence  s4 hy13) dX12_round_30 cv_X12_534 rfl so_101 rc_11 (by decide) (by first | exact Nat.le_of_ble_eq_true rfl | simp [rva_cat, vc_i, vc_r, vc_l, vc_n]) nn0 rfl (pc2 := 33) rfl ?_
        refine e_goto (tgt := 40) dX12_round_33 (by decide) ?_
        cases hf
        exact e_iret rfl dX12_round_40
  · have hf := if_t c2 hf
    refine e_iconst (x := (-1)) dX12_round_14 (by decide) (pc2 := 15) rfl ?_
    cases hf
    exact e_iret rfl dX12_round_15
abbrev DDX12_hasAll : Nat := 2
def f_X12_hasAll (v1 : Int32) (s : HS) : Option Int32 :=
  gd (inb v1 6) (bnd (f_X12_bits (s.1 152 v1.toNatClampNeg) s) fun y2 => gd (inb v1 12) ((if y2 = (s.1 118 v1.toNatClampNeg) then gd (inb v1 6) ((if (s.1 154 v1.toNatClampNeg) = 0 then some 1 else some 0)) else some 0)))
set_option maxRecDepth 20000 in
set_option maxHeartbeats 2000000 in
theorem t_X12_hasAll (v1 : Int32) (s : HS) {x : Int32} (hf : f_X12_hasAll  v1 s = some x) : Mt DDX12_hasAll miX12_hasAll [.ref 101, .int v1] NF (hp s) (some (.int x)) NF (hp s) := by
  refine Mt.of (by decide +kernel) (Nat.le_refl _) (Nat.le_of_ble_eq_true rfl) ?_
  show Ev DDX12_hasAll miX12_hasAll NF (some (.int x)) NF (hp s) 0 NF [(0, .ref 101), (1, .int v1)] [] (hp s)
  unfold f_X12_hasAll at hf
  refine e_aload_n dX12_hasAll_0 0 rfl rfl (pc2 := 1) rfl ?_
  refine e_getR (r := 152) fl_X12_169 dX12_hasAll_1 so_101 (rs_101_69 s.2.2) (by decide) (pc2 := 4) rfl ?_
  refine e_iload_n dX12_hasAll_4 1 rfl rfl (pc2 := 5) rfl ?_
  obtain ⟨g1, hf⟩ := gd_some hf
  refine e_iald dX12_hasAll_5 sa_152 (inb_v g1) (pc2 := 6) rfl ?_
  obtain ⟨y2, hy2, hf⟩ := bnd_s hf
  refine e_callSs (t_X12_bits (s.1 152 v1.toNatClampNeg) s hy2) dX12_hasAll_6 cs_X12_504 rfl (by decide) (by first | exact Nat.le_of_ble_eq_true rfl | simp [rva_cat, vc_i, vc_r, vc_l, vc_n]) nn0 rfl (pc2 := 9) rfl ?_
  refine e_aload_n dX12_hasAll_9 0 rfl rfl (pc2 := 10) rfl ?_
  refine e_getR (r := 118) fl_X12_59 dX12_hasAll_10 so_101 (rs_101_25 s.2.2) (by decide) (pc2 := 13) rfl ?_
  refine e_iload_n dX12_hasAll_13 1 rfl rfl (pc2 := 14) rfl ?_
  obtain ⟨g3, hf⟩ := gd_some hf
  refine e_iald dX12_hasAll_14 sa_118 (inb_v g3) (pc2 := 15) rfl ?_
  refine e_icmp_ne (tgt := 31) dX12_hasAll_15 (by decide) (pc2 := 18) rfl (fun c4 => ?_) (fun c4 => ?_)
  · have hf := if_f c4 hf
    refine e_iconst (x := 0) dX12_hasAll_31 (by decide) (pc2 := 32) rfl ?_
    cases hf
    exact e_zret (by decide) rfl dX12_hasAll_32
  · have hf := if_t c4 hf
    refine e_aload_n dX12_hasAll_18 0 rfl rfl (pc2 := 19) rfl ?_
    refine e_getR (r := 154) fl_X12_175 dX12_hasAll_19 so_101 (rs_101_71 s.2.2) (by decide) (pc2 := 22) rfl ?_
    refine e_iload_n dX12_hasAll_22 1 rfl rfl (pc2 := 23) rfl ?_
    obtain ⟨g5, hf⟩ := gd_some hf
    refine e_iald dX12_hasAll_23 sa_154 (inb_v g5) (pc2 := 24) rfl ?_
    refine e_if_ne (tgt := 31) dX12_hasAll_24 (by decide) (pc2 := 27) rfl (fun c6 => ?_) (fun c6 => ?_)
    · have hf := if_f c6 hf
      refine e_iconst (x := 0) dX12_hasAll_31 (by decide) (pc2 := 32) rfl ?_
      cases hf
      exact e_zret (by decide) rfl dX12_hasAll_32
    · have hf := if_t c6 hf
      refine e_iconst (x := 1) dX12_hasAll_27 (by decide) (pc2 := 28) rfl ?_
      refine e_goto (tgt := 32) dX12_hasAll_28 (by decide) ?_
      cases hf
      exact e_zret (by decide) rfl dX12_hasAll_32
abbrev DDX12_chance : Nat := 7
def f_X12_chance_l30b (v1 : Int32) (v2 : Int32) (v3 : Int64) (v5 : Int64) (v7 : Int32) (k30 : Int64 → Int32 → HS → Option (Int32 × HS)) (k65 : Int64 → HS → Option (Int32 × HS)) (s : HS) : Option (Int32 × HS) :=
  (if (s.1 103 2) ≤ v7 then k65 v5 s else (if v7 = v1 then ltb (v5 * 1) fun x10 => ltb (v7 + 1) fun x11 => k30 x10 x11 s else ltb (v5 * 10) fun x8 => ltb (v7 + 1) fun x9 => k30 x8 x9 s))
set_option maxRecDepth 20000 in
set_option maxHeartbeats 2000000 in
theorem t_X12_chance_l30b (v1 : Int32) (v2 : Int32) (v3 : Int64) (v5 : Int64) (v7 : Int32) (s : HS) {x : Int32} {t : HS} (k30 : Int64 → Int32 → HS → Option (Int32 × HS)) (hk30 : ∀ (a5 : Int64) (a7 : Int32) (s : HS), k30 a5 a7 s = some (x, t) → Ev DDX12_chance miX12_chance NF (some (.int x)) NF (hp t) 30 NF [(0, .ref 101), (1, .int v1), (2, .int v2), (3, .long v3), (5, .long a5), (7, .int a7)] [] (hp s)) (k65 : Int64 → HS → Option (Int32 × HS)) (hk65 : ∀ (a5 : Int64) (s : HS), k65 a5 s = some (x, t) → Ev DDX12_chance miX12_chance NF (some (.int x)) NF (hp t) 65 NF [(0, .ref 101), (1, .int v1), (2, .int v2), (3, .long v3), (5, .long a5)] [] (hp s)) (hf : f_X12_chance_l30b v1 v2 v3 v5 v7 k30 k65 s = some (x, t)) : Ev DDX12_chance miX12_chance NF (some (.int x)) NF (hp t) 30 NF [(0, .ref 101), (1, .int v1), (2, .int v2), (3, .long v3), (5, .long v5), (7, .int v7)] [] (hp s) := by
  refine e_iload dX12_chance_30 5 rfl (pc2 := 32) rfl ?_
  refine e_aload_n dX12_chance_32 0 rfl rfl (pc2 := 33) rfl ?_
  refine e_getR (r := 103) fl_X12_13 dX12_chance_33 so_101 (rs_101_10 s.2.2) (by decide) (pc2 := 36) rfl ?_
  refine e_iconst (x := 2) dX12_chance_36 (by decide) (pc2 := 37) rfl ?_
  refine e_iald dX12_chance_37 sa_103 (inb_v (by decide)) (pc2 := 38) rfl ?_
  refine e_icmp_ge (tgt := 65) dX12_chance_38 (by decide) (pc2 := 41) rfl (fun c6 => ?_) (fun c6 => ?_)
  · have hf := if_t c6 hf
    refine ev_sub [0, 1, 2, 3, 4] rfl ?_
    exact hk65 v5 s hf
  · have hf := if_f c6 hf
    refine e_lload dX12_chance_41 4 rfl (pc2 := 43) rfl ?_
    refine e_iload dX12_chance_43 5 rfl (pc2 := 45) rfl ?_
    refine e_iload_n dX12_chance_45 1 rfl rfl (pc2 := 46) rfl ?_
    refine e_icmp_ne (tgt := 53) dX12_chance_46 (by decide) (pc2 := 49) rfl (fun c7 => ?_) (fun c7 => ?_)
    · have hf := if_f c7 hf
      refine e_ldc2 dX12_chance_53 lk_X12_556 (pc2 := 56) rfl ?_
      refine e_lmul dX12_chance_56 (pc2 := 57) rfl ?_
      obtain ⟨x8, ex8, hf⟩ := ltb_s hf
      refine e_lstore dX12_chance_57 (by decide) ex8.symm (ls' := [(0, .ref 101), (1, .int v1), (2, .int v2), (3, .long v3), (5, .long x8), (7, .int v7)]) [1, 2, 3, 4, 0, 5] rfl (pc2 := 59) rfl ?_
      obtain ⟨x9, ex9, hf⟩ := ltb_s hf
      refine e_iinc dX12_chance_59 5 rfl (c9 := 1) (by decide) ex9.symm (by decide) (ls' := [(0, .ref 101), (1, .int v1), (2, .int v2), (3, .long v3), (5, .long x8), (7, .int x9)]) [1, 2, 3, 4, 5, 0] rfl (pc2 := 62) rfl ?_
      refine e_goto (tgt := 30) dX12_chance_62 (by decide) ?_
      exact hk30 x8 x9 s hf
    · have hf := if_t c7 hf
      refine e_lconst (x := 1) dX12_chance_49 (by decide) (pc2 := 50) rfl ?_
      refine e_goto (tgt := 56) dX12_chance_50 (by decide) ?_
      refine e_lmul dX12_chance_56 (pc2 := 57) rfl ?_
      obtain ⟨x10, ex10, hf⟩ := ltb_s hf
      refine e_lstore dX12_chance_57 (by decide) ex10.symm (ls' := [(0, .ref 101), (1, .int v1), (2, .int v2), (3, .long v3), (5, .long x10), (7, .int v7)]) [1, 2, 3, 4, 0, 5] rfl (pc2 := 59) rfl ?_
      obtain ⟨x11, ex11, hf⟩ := ltb_s hf
      refine e_iinc dX12_chance_59 5 rfl (c9 := 1) (by decide) ex11.symm (by decide) (ls' := [(0, .ref 101), (1, .int v1), (2, .int v2), (3, .long v3), (5, .long x10), (7, .int x11)]) [1, 2, 3, 4, 5, 0] rfl (pc2 := 62) rfl ?_
      refine e_goto (tgt := 30) dX12_chance_62 (by decide) ?_
      exact hk30 x10 x11 s hf
def f_X12_chance_l30 (v1 : Int32) (v2 : Int32) (v3 : Int64) (k65 : Int64 → HS → Option (Int32 × HS)) : Nat → Int64 → Int32 → HS → Option (Int32 × HS)
  | 0, _, _, _ => none
  | n + 1, v5, v7, s => f_X12_chance_l30b v1 v2 v3 v5 v7 (f_X12_chance_l30 v1 v2 v3 k65 n) k65 s
set_option maxRecDepth 20000 in
set_option maxHeartbeats 2000000 in
theorem t_X12_chance_l30 (v1 : Int32) (v2 : Int32) (v3 : Int64) {x : Int32} {t : HS} (k65 : Int64 → HS → Option (Int32 × HS)) (hk65 : ∀ (a5 : Int64) (s : HS), k65 a5 s = some (x, t) → Ev DDX12_chance miX12_chance NF (some (.int x)) NF (hp t) 65 NF [(0, .ref 101), (1, .int v1), (2, .int v2), (3, .long v3), (5, .long a5)] [] (hp s)) : ∀ (n : Nat) (v5 : Int64) (v7 : Int32) (s : HS), f_X12_chance_l30 v1 v2 v3 k65 n v5 v7 s = some (x, t) → Ev DDX12_chance miX12_chance NF (some (.int x)) NF (hp t) 30 NF [(0, .ref 101), (1, .int v1), (2, .int v2), (3, .long v3), (5, .long v5), (7, .int v7)] [] (hp s) := by
  intro n
  induction n with
  | zero =>
    intro v5 v7 s hf
    have hf : none = some (x, t) := hf
    cases hf
  | succ n ih =>
    intro v5 v7 s hf
    exact t_X12_chance_l30b v1 v2 v3 v5 v7  s _ ih _ hk65 hf
def f_X12_chance_l95b (v1 : Int32) (v2 : Int32) (v3 : Int64) (v5 : Int64) (v7 : Int32) (v8 : Int64) (v10 : Int32) (k95 : Int64 → Int32 → HS → Option (Int32 × HS)) (k160 : Int64 → HS → Option (Int32 × HS)) (s : HS) : Option (Int32 × HS) :=
  (if (s.1 103 2) ≤ v10 then k160 v8 s else (if v10 = v1 then ltb (v8 * 1) fun x26 => ltb (v10 + 1) fun x27 => k95 x26 x27 s else (if ((v7 >>> (v10 &&& 31)) &&& (1 : Int32)) = 1 then gd (inb v10 12) (ltb (v8 * ((s.1 115 v10.toNatClampNeg : Int32).toInt64)) fun x24 => ltb (v10 + 1) fun x25 => k95 x24 x25 s) else gd (inb v10 12) (ltb (v8 * ((10 - (s.1 115 v10.toNatClampNeg) : Int32).toInt64)) fun x21 => ltb (v10 + 1) fun x22 => k95 x21 x22 s))))
set_option maxRecDepth 20000 in
set_option maxHeartbeats 2000000 in
theorem t_X12_chance_l95b (v1 : Int32) (v2 : Int32) (v3 : Int64) (v5 : Int64) (v7 : Int32) (v8 : Int64) (v10 : Int32) (s : HS) {x : Int32} {t : HS} (k95 : Int64 → Int32 → HS → Option (Int32 × HS)) (hk95 : ∀ (a8 : Int64) (a10 : Int32) (s : HS), k95 a8 a10 s = some (x, t) → Ev DDX12_chance miX12_chance NF (some (.int x)) NF (hp t) 95 NF [(0, .ref 101), (1, .int v1), (2, .int v2), (3, .long v3), (5, .long v5), (7, .int v7), (8, .long a8), (10, .int a10)] [] (hp s)) (k160 : Int64 → HS → Option (Int32 × HS)) (hk160 : ∀ (a8 : Int64) (s : HS), k160 a8 s = some (x, t) → Ev DDX12_chance miX12_chance NF (some (.int x)) NF (hp t) 160 NF [(0, .ref 101), (1, .int v1), (2, .int v2), (3, .long v3), (5, .long v5), (7, .int v7), (8, .long a8)] [] (hp s)) (hf : f_X12_chance_l95b v1 v2 v3 v5 v7 v8 v10 k95 k160 s = some (x, t)) : Ev DDX12_chance miX12_chance NF (some (.int x)) NF (hp t) 95 NF [(0, .ref 101), (1, .int v1), (2, .int v2), (3, .long v3), (5, .long v5), (7, .int v7), (8, .long v8), (10, .int v10)] [] (hp s) := by
  refine e_iload dX12_chance_95 7 rfl (pc2 := 97) rfl ?_
  refine e_aload_n dX12_chance_97 0 rfl rfl (pc2 := 98) rfl ?_
  refine e_getR (r := 103) fl_X12_13 dX12_chance_98 so_101 (rs_101_10 s.2.2) (by decide) (pc2 := 101) rfl ?_
  refine e_iconst (x := 2) dX12_chance_101 (by decide) (pc2 := 102) rfl ?_
  refine e_iald dX12_chance_102 sa_103 (inb_v (by decide)) (pc2 := 103) rfl ?_
  refine e_icmp_ge (tgt := 160) dX12_chance_103 (by decide) (pc2 := 106) rfl (fun c17 => ?_) (fun c17 => ?_)
  · have hf := if_t c17 hf
    refine ev_sub [0, 1, 2, 3, 4, 5, 6] rfl ?_
    exact hk160 v8 s hf
  · have hf := if_f c17 hf
    refine e_lload dX12_chance_106 6 rfl (pc2 := 108) rfl ?_
    refine e_iload dX12_chance_108 7 rfl (pc2 := 110) rfl ?_
    refine e_iload_n dX12_chance_110 1 rfl rfl (pc2 := 111) rfl ?_
    refine e_icmp_ne (tgt := 118) dX12_chance_111 (by decide) (pc2 := 114) rfl (fun c18 => ?_) (fun c18 => ?_)
    · have hf := if_f c18 hf
      refine e_iload dX12_chance_118 5 rfl (pc2 := 120) rfl ?_
      refine e_iload dX12_chance_120 7 rfl (pc2 := 122) rfl ?_
      refine e_ishr dX12_chance_122 (pc2 := 123) rfl ?_
      refine e_iconst (x := 1) dX12_chance_123 (by decide) (pc2 := 124) rfl ?_
      refine e_iand dX12_chance_124 (pc2 := 125) rfl ?_
      refine e_iconst (x := 1) dX12_chance_125 (by decide) (pc2 := 126) rfl ?_
      refine e_icmp_ne (tgt := 140) dX12_chance_126 (by decide) (pc2 := 129) rfl (fun c19 => ?_) (fun c19 => ?_)
      · have hf := if_f c19 hf
        refine e_bipush (x := 10) dX12_chance_140 (by decide) (pc2 := 142) rfl ?_
        refine e_aload_n dX12_chance_142 0 rfl rfl (pc2 := 143) rfl ?_
        refine e_getR (r := 115) fl_X12_50 dX12_chance_143 so_101 (rs_101_22 s.2.2) (by decide) (pc2 := 146) rfl ?_
        refine e_iload dX12_chance_146 7 rfl (pc2 := 148) rfl ?_
        obtain ⟨g20, hf⟩ := gd_some hf
        refine e_iald dX12_chance_148 sa_115 (inb_v g20) (pc2 := 149) rfl ?_
        refine e_isub dX12_chance_149 (pc2 := 150) rfl ?_
        refine e_i2l dX12_chance_150 (pc2 := 151) rfl ?_
        refine e_lmul dX12_chance_151 (pc2 := 152) rfl ?_
        obtain ⟨x21, ex21, hf⟩ := ltb_s hf
        refine e_lstore dX12_chance_152 (by decide) ex21.symm (ls' := [(0, .ref 101), (1, .int v1), (2, .int v2), (3, .long v3), (5, .long v5), (7, .int v7), (8, .long x21), (10, .int v10)]) [1, 2, 3, 4, 5, 6, 0, 7] rfl (pc2 := 154) rfl ?_
        obtain ⟨x22, ex22, hf⟩ := ltb_s hf
        refine e_iinc dX12_chance_154 7 rfl (c9 := 1) (by decide) ex22.symm (by decide) (ls' := [(0, .ref 101), (1, .int v1), (2, .int v2), (3, .long v3), (5, .long v5), (7, .int v7), (8, .long x21), (10, .int x22)]) [1, 2, 3, 4, 5, 6, 7, 0] rfl (pc2 := 157) rfl ?_
        refine e_goto (tgt := 95) dX12_chance_157 (by decide) ?_
        exact hk95 x21 x22 s hf
      · have hf := if_t c19 hf
        refine e_aload_n dX12_chance_129 0 rfl rfl (pc2 := 130) rfl ?_
        refine e_getR (r := 115) fl_X12_50 dX12_chance_130 so_101 (rs_101_22 s.2.2) (by decide) (pc2 := 133) rfl ?_
        refine e_iload dX12_chance_133 7 rfl (pc2 := 135) rfl ?_
        obtain ⟨g23, hf⟩ := gd_some hf
        refine e_iald dX12_chance_135 sa_115 (inb_v g23) (pc2 := 136) rfl ?_
        refine e_i2l dX12_chance_136 (pc2 := 137) rfl ?_
        refine e_goto (tgt := 151) dX12_chance_137 (by decide) ?_
        refine e_lmul dX12_chance_151 (pc2 := 152) rfl ?_
        obtain ⟨x24, ex24, hf⟩ := ltb_s hf
        refine e_lstore dX12_chance_152 (by decide) ex24.symm (ls' := [(0, .ref 101), (1, .int v1), (2, .int v2), (3, .long v3), (5, .long v5), (7, .int v7), (8, .long x24), (10, .int v10)]) [1, 2, 3, 4, 5, 6, 0, 7] rfl (pc2 := 154) rfl ?_
        obtain ⟨x25, ex25, hf⟩ := ltb_s hf
        refine e_iinc dX12_chance_154 7 rfl (c9 := 1) (by decide) ex25.symm (by decide) (ls' := [(0, .ref 101), (1, .int v1), (2, .int v2), (3, .long v3), (5, .long v5), (7, .int v7), (8, .long x24), (10, .int x25)]) [1, 2, 3, 4, 5, 6, 7, 0] rfl (pc2 := 157) rfl ?_
        refine e_goto (tgt := 95) dX12_chance_157 (by decide) ?_
        exact hk95 x24 x25 s hf
    · have hf := if_t c18 hf
      refine e_lconst (x := 1) dX12_chance_114 (by decide) (pc2 := 115) rfl ?_
      refine e_goto (tgt := 151) dX12_chance_115 (by decide) ?_
      refine e_lmul dX12_chance_151 (pc2 := 152) rfl ?_
      obtain ⟨x26, ex26, hf⟩ := ltb_s hf
      refine e_lstore dX12_chance_152 (by decide) ex26.symm (ls' := [(0, .ref 101), (1, .int v1), (2, .int v2), (3, .long v3), (5, .long v5), (7, .int v7), (8, .long x26), (10, .int v10)]) [1, 2, 3, 4, 5, 6, 0, 7] rfl (pc2 := 154) rfl ?_
      obtain ⟨x27, ex27, hf⟩ := ltb_s hf
      refine e_iinc dX12_chance_154 7 rfl (c9 := 1) (by decide) ex27.symm (by decide) (ls' := [(0, .ref 101), (1, .int v1), (2, .int v2), (3, .long v3), (5, .long v5), (7, .int v7), (8, .long x26), (10, .int x27)]) [1, 2, 3, 4, 5, 6, 7, 0] rfl (pc2 := 157) rfl ?_
      refine e_goto (tgt := 95) dX12_chance_157 (by decide) ?_
      exact hk95 x26 x27 s hf
def f_X12_chance_l95 (v1 : Int32) (v2 : Int32) (v3 : Int64) (v5 : Int64) (v7 : Int32) (k160 : Int64 → HS → Option (Int32 × HS)) : Nat → Int64 → Int32 → HS → Option (Int32 × HS)
  | 0, _, _, _ => none
  | n + 1, v8, v10, s => f_X12_chance_l95b v1 v2 v3 v5 v7 v8 v10 (f_X12_chance_l95 v1 v2 v3 v5 v7 k160 n) k160 s
set_option maxRecDepth 20000 in
set_option maxHeartbeats 2000000 in
theorem t_X12_chance_l95 (v1 : Int32) (v2 : Int32) (v3 : Int64) (v5 : Int64) (v7 : Int32) {x : Int32} {t : HS} (k160 : Int64 → HS → Option (Int32 × HS)) (hk160 : ∀ (a8 : Int64) (s : HS), k160 a8 s = some (x, t) → Ev DDX12_chance miX12_chance NF (some (.int x)) NF (hp t) 160 NF [(0, .ref 101), (1, .int v1), (2, .int v2), (3, .long v3), (5, .long v5), (7, .int v7), (8, .long a8)] [] (hp s)) : ∀ (n : Nat) (v8 : Int64) (v10 : Int32) (s : HS), f_X12_chance_l95 v1 v2 v3 v5 v7 k160 n v8 v10 s = some (x, t) → Ev DDX12_chance miX12_chance NF (some (.int x)) NF (hp t) 95 NF [(0, .ref 101), (1, .int v1), (2, .int v2), (3, .long v3), (5, .long v5), (7, .int v7), (8, .long v8), (10, .int v10)] [] (hp s) := by
  intro n
  induction n with
  | zero =>
    intro v8 v10 s hf
    have hf : none = some (x, t) := hf
    cases hf
  | succ n ih =>
    intro v8 v10 s hf
    exact t_X12_chance_l95b v1 v2 v3 v5 v7 v8 v10  s _ ih _ hk160 hf
def f_X12_chance_l68b (v1 : Int32) (v2 : Int32) (v3 : Int64) (v5 : Int64) (v7 : Int32) (k68 : Int64 → Int32 → HS → Option (Int32 × HS)) (k205 : Int64 → HS → Option (Int32 × HS)) (s : HS) : Option (Int32 × HS) :=
  (if (f_X12_allBuyers s) < v7 then k205 v3 s else (if ((v7 >>> (v1 &&& 31)) &&& (1 : Int32)) = 0 then ltb (v7 + 1) fun x41 => k68 v3 x41 s else f_X12_chance_l95 v1 v2 v3 v5 v7 (fun v28 s29 => (if (lg_cmp v28 0) = 0 then ltb (v7 + 1) fun x40 => k68 v3 x40 s29 else ltb (sI s29 145 (0) v7) fun s31 => bnd (f_X12_runs s31) fun s33 => bnd (f_X12_hasAll v1 s33) fun y34 => (if y34 = 0 then ltb (v3 + 0) fun x36 => ltb (v7 + 1) fun x37 => k68 x36 x37 s33 else ltb (v3 + v28) fun x38 => ltb (v7 + 1) fun x39 => k68 x38 x39 s33))) FU 1 0 s))
set_option maxRecDepth 20000 in
set_option maxHeartbeats 2000000 in
theorem t_X12_chance_l68b (v1 : Int32) (v2 : Int32) (v3 : Int64) (v5 : Int64) (v7 : Int32) (s : HS) {x : Int32} {t : HS} (k68 : Int64 → Int32 → HS → Option (Int32 × HS)) (hk68 : ∀ (a3 : Int64) (a7 : Int32) (s : HS), k68 a3 a7 s = some (x, t) → Ev DDX12_chance miX12_chance NF (some (.int x)) NF (hp t) 68 NF [(0, .ref 101), (1, .int v1), (2, .int v2), (3, .long a3), (5, .long v5), (7, .int a7)] [] (hp s)) (k205 : Int64 → HS → Option (Int32 × HS)) (hk205 : ∀ (a3 : Int64) (s : HS), k205 a3 s = some (x, t) → Ev DDX12_chance miX12_chance NF (some (.int x)) NF (hp t) 205 NF [(0, .ref 101), (2, .int v2), (3, .long a3), (5, .long v5)] [] (hp s)) (hf : f_X12_chance_l68b v1 v2 v3 v5 v7 k68 k205 s = some (x, t)) : Ev DDX12_chance miX12_chance NF (some (.int x)) NF (hp t) 68 NF [(0, .ref 101), (1, .int v1), (2, .int v2), (3, .long v3), (5, .long v5), (7, .int v7)] [] (hp s) := by
  refine e_iload dX12_chance_68 5 rfl (pc2 := 70) rfl ?_
  refine e_aload_n dX12_chance_70 0 rfl rfl (pc2 := 71) rfl ?_
  refine e_callVs (t_X12_allBuyers  s rfl) dX12_chance_71 cv_X12_558 rfl so_101 rc_11 (by decide) (by first | exact Nat.le_of_ble_eq_true rfl | simp [rva_cat, vc_i, vc_r, vc_l, vc_n]) nn0 rfl (pc2 := 74) rfl ?_
  refine e_icmp_gt (tgt := 205) dX12_chance_74 (by decide) (pc2 := 77) rfl (fun c14 => ?_) (fun c14 => ?_)
  · have hf := if_t c14 hf
    refine ev_sub [0, 2, 3, 4] rfl ?_
    exact hk205 v3 s hf
  · have hf := if_f c14 hf
    refine e_iload dX12_chance_77 5 rfl (pc2 := 79) rfl ?_
    refine e_iload_n dX12_chance_79 1 rfl rfl (pc2 := 80) rfl ?_
    refine e_ishr dX12_chance_80 (pc2 := 81) rfl ?_
    refine e_iconst (x := 1) dX12_chance_81 (by decide) (pc2 := 82) rfl ?_
    refine e_iand dX12_chance_82 (pc2 := 83) rfl ?_
    refine e_if_ne (tgt := 89) dX12_chance_83 (by decide) (pc2 := 86) rfl (fun c15 => ?_) (fun c15 => ?_)
    · have hf := if_f c15 hf
      refine e_lconst (x := 1) dX12_chance_89 (by decide) (pc2 := 90) rfl ?_
      refine e_lstore dX12_chance_90 (by decide) rfl (ls' := [(0, .ref 101), (1, .int v1), (2, .int v2), (3, .long v3), (5, .long v5), (7, .int v7), (8, .long 1)]) [1, 2, 3, 4, 5, 6, 0] rfl (pc2 := 92) rfl ?_
      refine e_iconst (x := 0) dX12_chance_92 (by decide) (pc2 := 93) rfl ?_
      refine e_istore dX12_chance_93 (by decide) rfl (ls' := [(0, .ref 101), (1, .int v1), (2, .int v2), (3, .long v3), (5, .long v5), (7, .int v7), (8, .long 1), (10, .int 0)]) [1, 2, 3, 4, 5, 6, 7, 0] rfl (pc2 := 95) rfl ?_
      refine t_X12_chance_l95 v1 v2 v3 v5 v7 _ ?_ FU 1 0 s hf
      · intro v28 s29 hf
        refine e_lload dX12_chance_160 6 rfl (pc2 := 162) rfl ?_
        refine e_lconst (x := 0) dX12_chance_162 (by decide) (pc2 := 163) rfl ?_
        refine e_lcmp dX12_chance_163 (pc2 := 164) rfl ?_
        refine e_if_ne (tgt := 170) dX12_chance_164 (by decide) (pc2 := 167) rfl (fun c30 => ?_) (fun c30 => ?_)
        · have hf := if_f c30 hf
          refine e_aload_n dX12_chance_170 0 rfl rfl (pc2 := 171) rfl ?_
          refine e_getR (r := 145) fl_X12_141 dX12_chance_171 so_101 (rs_101_55 s29.2.2) (by decide) (pc2 := 174) rfl ?_
          refine e_iconst (x := 0) dX12_chance_174 (by decide) (pc2 := 175) rfl ?_
          refine e_iload dX12_chance_175 5 rfl (pc2 := 177) rfl ?_
          obtain ⟨s31, es31, hf⟩ := ltb_s hf
          refine e_iast dX12_chance_177 sa_145 (inb_v (by decide)) (h2 := hp s31) (by rw [es31]; rfl) (pc2 := 178) rfl ?_
          refine e_aload_n dX12_chance_178 0 rfl rfl (pc2 := 179) rfl ?_
          obtain ⟨s33, hy32, hf⟩ := bnd_s hf
          refine e_callVn (t_X12_runs  s31 hy32) dX12_chance_179 cv_X12_528 rfl so_101 rc_11 (by decide) (by first | exact Nat.le_of_ble_eq_true rfl | simp [rva_cat, vc_i, vc_r, vc_l, vc_n]) nn0 rfl (pc2 := 182) rfl ?_
          refine e_lload_n dX12_chance_182 3 rfl rfl (pc2 := 183) rfl ?_
          refine e_aload_n dX12_chance_183 0 rfl rfl (pc2 := 184) rfl ?_
          refine e_iload_n dX12_chance_184 1 rfl rfl (pc2 := 185) rfl ?_
          obtain ⟨y34, hy34, hf⟩ := bnd_s hf
          refine e_callVs (t_X12_hasAll v1 s33 hy34) dX12_chance_185 cv_X12_561 rfl so_101 rc_11 (by decide) (by first | exact Nat.le_of_ble_eq_true rfl | simp [rva_cat, vc_i, vc_r, vc_l, vc_n]) nn0 rfl (pc2 := 188) rfl ?_
          refine e_if_eq (tgt := 196) dX12_chance_188 (by decide) (pc2 := 191) rfl (fun c35 => ?_) (fun c35 => ?_)
          · have hf := if_t c35 hf
            refine e_lconst (x := 0) dX12_chance_196 (by decide) (pc2 := 197) rfl ?_
            refine e_ladd dX12_chance_197 (pc2 := 198) rfl ?_
            obtain ⟨x36, ex36, hf⟩ := ltb_s hf
            refine e_lstore_n dX12_chance_198 rfl (by decide) ex36.symm (ls' := [(0, .ref 101), (1, .int v1), (2, .int v2), (3, .long x36), (5, .long v5), (7, .int v7)]) [1, 2, 3, 0, 4, 5] rfl (pc2 := 199) rfl ?_
            obtain ⟨x37, ex37, hf⟩ := ltb_s hf
            refine e_iinc dX12_chance_199 5 rfl (c9 := 1) (by decide) ex37.symm (by decide) (ls' := [(0, .ref 101), (1, .int v1), (2, .int v2), (3, .long x36), (5, .long v5), (7, .int x37)]) [1, 2, 3, 4, 5, 0] rfl (pc2 := 202) rfl ?_
            refine e_goto (tgt := 68) dX12_chance_202 (by decide) ?_
            exact hk68 x36 x37 s33 hf
          · have hf := if_f c35 hf
            refine e_lload dX12_chance_191 6 rfl (pc2 := 193) rfl ?_
            refine e_goto (tgt := 197) dX12_chance_193 (by decide) ?_
            refine e_ladd dX12_chance_197 (pc2 := 198) rfl ?_
            obtain ⟨x38, ex38, hf⟩ := ltb_s hf
            refine e_lstore_n dX12_chance_198 rfl (by decide) ex38.symm (ls' := [(0, .ref 101), (1, .int v1), (2, .int v2), (3, .long x38), (5, .long v5), (7, .int v7)]) [1, 2, 3, 0, 4, 5] rfl (pc2 := 199) rfl ?_
            obtain ⟨x39, ex39, hf⟩ := ltb_s hf
            refine e_iinc dX12_chance_199 5 rfl (c9 := 1) (by decide) ex39.symm (by decide) (ls' := [(0, .ref 101), (1, .int v1), (2, .int v2), (3, .long x38), (5, .long v5), (7, .int x39)]) [1, 2, 3, 4, 5, 0] rfl (pc2 := 202) rfl ?_
            refine e_goto (tgt := 68) dX12_chance_202 (by decide) ?_
            exact hk68 x38 x39 s33 hf
        · have hf := if_t c30 hf
          refine e_goto (tgt := 199) dX12_chance_167 (by decide) ?_
          obtain ⟨x40, ex40, hf⟩ := ltb_s hf
          refine e_iinc dX12_chance_199 5 rfl (c9 := 1) (by decide) ex40.symm (by decide) (ls' := [(0, .ref 101), (1, .int v1), (2, .int v2), (3, .long v3), (5, .long v5), (7, .int x40)]) [1, 2, 3, 4, 5, 0] rfl (pc2 := 202) rfl ?_
          refine e_goto (tgt := 68) dX12_chance_202 (by decide) ?_
          exact hk68 v3 x40 s29 hf
    · have hf := if_t c15 hf
      refine e_goto (tgt := 199) dX12_chance_86 (by decide) ?_
      obtain ⟨x41, ex41, hf⟩ := ltb_s hf
      refine e_iinc dX12_chance_199 5 rfl (c9 := 1) (by decide) ex41.symm (by decide) (ls' := [(0, .ref 101), (1, .int v1), (2, .int v2), (3, .long v3), (5, .long v5), (7, .int x41)]) [1, 2, 3, 4, 5, 0] rfl (pc2 := 202) rfl ?_
      refine e_goto (tgt := 68) dX12_chance_202 (by decide) ?_
      exact hk68 v3 x41 s hf
def f_X12_chance_l68 (v1 : Int32) (v2 : Int32) (v5 : Int64) (k205 : Int64 → HS → Option (Int32 × HS)) : Nat → Int64 → Int32 → HS → Option (Int32 × HS)
  | 0, _, _, _ => none
  | n + 1, v3, v7, s => f_X12_chance_l68b v1 v2 v3 v5 v7 (f_X12_chance_l68 v1 v2 v5 k205 n) k205 s
set_option maxRecDepth 20000 in
set_option maxHeartbeats 2000000 in
theorem t_X12_chance_l68 (v1 : Int32) (v2 : Int32) (v5 : Int64) {x : Int32} {t : HS} (k205 : Int64 → HS → Option (Int32 × HS)) (hk205 : ∀ (a3 : Int64) (s : HS), k205 a3 s = some (x, t) → Ev DDX12_chance miX12_chance NF (some (.int x)) NF (hp t) 205 NF [(0, .ref 101), (2, .int v2), (3, .long a3), (5, .long v5)] [] (hp s)) : ∀ (n : Nat) (v3 : Int64) (v7 : Int32) (s : HS), f_X12_chance_l68 v1 v2 v5 k205 n v3 v7 s = some (x, t) → Ev DDX12_chance miX12_chance NF (some (.int x)) NF (hp t) 68 NF [(0, .ref 101), (1, .int v1), (2, .int v2), (3, .long v3), (5, .long v5), (7, .int v7)] [] (hp s) := by
  intro n
  induction n with
  | zero =>
    intro v3 v7 s hf
    have hf : none = some (x, t) := hf
    cases hf
  | succ n ih =>
    intro v3 v7 s hf
    exact t_X12_chance_l68b v1 v2 v3 v5 v7  s _ ih _ hk205 hf
def f_X12_chance (v1 : Int32) (s : HS) : Option (Int32 × HS) :=
  ltb (sI s 101 0 0) fun s1 => (if (f_X12_isBuyer v1 s1) = 0 then some ((-1), s1) else ltb (s1.1 145 0) fun x4 => f_X12_chance_l30 v1 x4 0 (fun v12 s13 => f_X12_chance_l68 v1 x4 v12 (fun v42 s43 => ltb (sI s43 145 (0) x4) fun s44 => gd (!(v12 == 0)) (some (((v42 * 1000000) / v12 : Int64).toInt32, s44))) FU 0 0 s13) FU 1 0 s1)
set_option maxRecDepth 20000 in
set_option maxHeartbeats 2000000 in
theorem t_X12_chance (v1 : Int32) (s : HS) {x : Int32} {t : HS} (hf : f_X12_chance  v1 s = some (x, t)) : Mt DDX12_chance miX12_chance [.ref 101, .int v1] NF (hp s) (some (.int x)) NF (hp t) := by
  refine Mt.of (by decide +kernel) (Nat.le_refl _) (Nat.le_of_ble_eq_true rfl) ?_
  show Ev DDX12_chance miX12_chance NF (some (.int x)) NF (hp t) 0 NF [(0, .ref 101), (1, .int v1)] [] (hp s)
  unfold f_X12_chance at hf
  refine e_aload_n dX12_chance_0 0 rfl rfl (pc2 := 1) rfl ?_
  refine e_iconst (x := 0) dX12_chance_1 (by decide) (pc2 := 2) rfl ?_
  obtain ⟨s1, es1, hf⟩ := ltb_s hf
  refine e_putI fl_X12_194 dX12_chance_2 so_101 fn_11_0 (h2 := hp s1) (by rw [es1]; rfl) (pc2 := 5) rfl ?_
  refine e_aload_n dX12_chance_5 0 rfl rfl (pc2 := 6) rfl ?_
  refine e_iload_n dX12_chance_6 1 rfl rfl (pc2 := 7) rfl ?_
  refine e_callVs (t_X12_isBuyer v1 s1 rfl) dX12_chance_7 cv_X12_510 rfl so_101 rc_11 (by decide) (by first | exact Nat.le_of_ble_eq_true rfl | simp [rva_cat, vc_i, vc_r, vc_l, vc_n]) nn0 rfl (pc2 := 10) rfl ?_
  refine e_if_ne (tgt := 15) dX12_chance_10 (by decide) (pc2 := 13) rfl (fun c2 => ?_) (fun c2 => ?_)
  · have hf := if_f c2 hf
    refine e_aload_n dX12_chance_15 0 rfl rfl (pc2 := 16) rfl ?_
    refine e_getR (r := 145) fl_X12_141 dX12_chance_16 so_101 (rs_101_55 s1.2.2) (by decide) (pc2 := 19) rfl ?_
    refine e_iconst (x := 0) dX12_chance_19 (by decide) (pc2 := 20) rfl ?_
    refine e_iald dX12_chance_20 sa_145 (inb_v (by decide)) (pc2 := 21) rfl ?_
    obtain ⟨x4, ex4, hf⟩ := ltb_s hf
    refine e_istore_n dX12_chance_21 rfl (by decide) ex4.symm (ls' := [(0, .ref 101), (1, .int v1), (2, .int x4)]) [1, 2, 0] rfl (pc2 := 22) rfl ?_
    refine e_lconst (x := 0) dX12_chance_22 (by decide) (pc2 := 23) rfl ?_
    refine e_lstore_n dX12_chance_23 rfl (by decide) rfl (ls' := [(0, .ref 101), (1, .int v1), (2, .int x4), (3, .long 0)]) [1, 2, 3, 0] rfl (pc2 := 24) rfl ?_
    refine e_lconst (x := 1) dX12_chance_24 (by decide) (pc2 := 25) rfl ?_
    refine e_lstore dX12_chance_25 (by decide) rfl (ls' := [(0, .ref 101), (1, .int v1), (2, .int x4), (3, .long 0), (5, .long 1)]) [1, 2, 3, 4, 0] rfl (pc2 := 27) rfl ?_
    refine e_iconst (x := 0) dX12_chance_27 (by decide) (pc2 := 28) rfl ?_
    refine e_istore dX12_chance_28 (by decide) rfl (ls' := [(0, .ref 101), (1, .int v1), (2, .int x4), (3, .long 0), (5, .long 1), (7, .int 0)]) [1, 2, 3, 4, 5, 0] rfl (pc2 := 30) rfl ?_
    refine t_X12_chance_l30 v1 x4 0 _ ?_ FU 1 0 s1 hf
    · intro v12 s13 hf
      refine e_iconst (x := 0) dX12_chance_65 (by decide) (pc2 := 66) rfl ?_
      refine e_istore dX12_chance_66 (by decide) rfl (ls' := [(0, .ref 101), (1, .int v1), (2, .int x4), (3, .long 0), (5, .long v12), (7, .int 0)]) [1, 2, 3, 4, 5, 0] rfl (pc2 := 68) rfl ?_
      refine t_X12_chance_l68 v1 x4 v12 _ ?_ FU 0 0 s13 hf
      · intro v42 s43 hf
        refine e_aload_n dX12_chance_205 0 rfl rfl (pc2 := 206) rfl ?_
        refine e_getR (r := 145) fl_X12_141 dX12_chance_206 so_101 (rs_101_55 s43.2.2) (by decide) (pc2 := 209) rfl ?_
        refine e_iconst (x := 0) dX12_chance_209 (by decide) (pc2 := 210) rfl ?_
        refine e_iload_n dX12_chance_210 1 rfl rfl (pc2 := 211) rfl ?_
        obtain ⟨s44, es44, hf⟩ := ltb_s hf
        refine e_iast dX12_chance_211 sa_145 (inb_v (by decide)) (h2 := hp s44) (by rw [es44]; rfl) (pc2 := 212) rfl ?_
        refine e_lload_n dX12_chance_212 2 rfl rfl (pc2 := 213) rfl ?_
        refine e_ldc2 dX12_chance_213 lk_X12_564 (pc2 := 216) rfl ?_
        refine e_lmul dX12_chance_216 (pc2 := 217) rfl ?_
        refine e_lload dX12_chance_217 3 rfl (pc2 := 219) rfl ?_
        obtain ⟨g45, hf⟩ := gd_some hf
        refine e_ldiv dX12_chance_219 (ne_g g45) (pc2 := 220) rfl ?_
        refine e_l2i dX12_chance_220 (pc2 := 221) rfl ?_
        cases hf
        exact e_iret rfl dX12_chance_221
  · have hf := if_t c2 hf
    refine e_iconst (x := (-1)) dX12_chance_13 (by decide) (pc2 := 14) rfl ?_
    cases hf
    exact e_iret rfl dX12_chance_14
abbrev DDX12_rests : Nat := 7
def f_X12_rests_l99b (v1 : Int32) (v2 : Int32) (v3 : Int32) (v4 : Int32) (v5 : Int32) (k99 : Int32 → HS → Option (Int32 × HS)) (k174 : HS → Option (Int32 × HS)) (s : HS) : Option (Int32 × HS) :=
  (if 6 ≤ v5 then k174 s else (if ((v4 >>> (v5 &&& 31)) &&& (1 : Int32)) = 0 then gd (inb ((6 * v4) + v5) 384) (ltb (sI s 157 (((6 * v4) + v5).toNatClampNeg) 0) fun s13 => ltb (v5 + 1) fun x15 => k99 x15 s13) else (if (f_X12_isBuyer v5 s) = 0 then gd (inb ((6 * v4) + v5) 384) (ltb (sI s 157 (((6 * v4) + v5).toNatClampNeg) 0) fun s23 => ltb (v5 + 1) fun x25 => k99 x25 s23) else gd (inb v5 6) (bnd (f_X12_bits (s.1 152 v5.toNatClampNeg) s) fun y18 => gd (inb v5 6) (gd (inb ((6 * v4) + v5) 384) (ltb (sI s 157 (((6 * v4) + v5).toNatClampNeg) (((10 * y18) - 3) - (50 * (s.1 154 v5.toNatClampNeg)))) fun s20 => ltb (v5 + 1) fun x22 => k99 x22 s20))))))
set_option maxRecDepth 20000 in
set_option maxHeartbeats 2000000 in
theorem t_X12_rests_l99b (v1 : Int32) (v2 : Int32) (v3 : Int32) (v4 : Int32) (v5 : Int32) (s : HS) {x : Int32} {t : HS} (k99 : Int32 → HS → Option (Int32 × HS)) (hk99 : ∀ (a5 : Int32) (s : HS), k99 a5 s = some (x, t) → Ev DDX12_rests miX12_rests NF (some (.int x)) NF (hp t) 99 NF [(0, .ref 101), (1, .int v1), (2, .int v2), (3, .int v3), (4, .int v4), (5, .int a5)] [] (hp s)) (k174 : HS → Option (Int32 × HS)) (hk174 : ∀ (s : HS), k174 s = some (x, t) → Ev DDX12_rests miX12_rests NF (some (.int x)) NF (hp t) 174 NF [(0, .ref 101), (1, .int v1), (2, .int v2), (3, .int v3), (4, .int v4)] [] (hp s)) (hf : f_X12_rests_l99b v1 v2 v3 v4 v5 k99 k174 s = some (x, t)) : Ev DDX12_rests miX12_rests NF (some (.int x)) NF (hp t) 99 NF [(0, .ref 101), (1, .int v1), (2, .int v2), (3, .int v3), (4, .int v4), (5, .int v5)] [] (hp s) := by
  refine e_iload dX12_rests_99 5 rfl (pc2 := 101) rfl ?_
  refine e_bipush (x := 6) dX12_rests_101 (by decide) (pc2 := 103) rfl ?_
  refine e_icmp_ge (tgt := 174) dX12_rests_103 (by decide) (pc2 := 106) rfl (fun c11 => ?_) (fun c11 => ?_)
  · have hf := if_t c11 hf
    refine ev_sub [0, 1, 2, 3, 4] rfl ?_
    exact hk174 s hf
  · have hf := if_f c11 hf
    refine e_aload_n dX12_rests_106 0 rfl rfl (pc2 := 107) rfl ?_
    refine e_getR (r := 157) fl_X12_184 dX12_rests_107 so_101 (rs_101_76 s.2.2) (by decide) (pc2 := 110) rfl ?_
    refine e_bipush (x := 6) dX12_rests_110 (by decide) (pc2 := 112) rfl ?_
    refine e_iload dX12_rests_112 4 rfl (pc2 := 114) rfl ?_
    refine e_imul dX12_rests_114 (pc2 := 115) rfl ?_
    refine e_iload dX12_rests_115 5 rfl (pc2 := 117) rfl ?_
    refine e_iadd dX12_rests_117 (pc2 := 118) rfl ?_
    refine e_iload dX12_rests_118 4 rfl (pc2 := 120) rfl ?_
    refine e_iload dX12_rests_120 5 rfl (pc2 := 122) rfl ?_
    refine e_ishr dX12_rests_122 (pc2 := 123) rfl ?_
    refine e_iconst (x := 1) dX12_rests_123 (by decide) (pc2 := 124) rfl ?_
    refine e_iand dX12_rests_124 (pc2 := 125) rfl ?_
    refine e_if_eq (tgt := 137) dX12_rests_125 (by decide) (pc2 := 128) rfl (fun c12 => ?_) (fun c12 => ?_)
    · have hf := if_t c12 hf
      refine e_iconst (x := 0) dX12_rests_137 (by decide) (pc2 := 138) rfl ?_
      refine e_goto (tgt := 167) dX12_rests_138 (by decide) ?_
      obtain ⟨g14, hf⟩ := gd_some hf
      obtain ⟨s13, es13, hf⟩ := ltb_s hf
      refine e_iast dX12_rests_167 sa_157 (inb_v g14) (h2 := hp s13) (by rw [es13]; rfl) (pc2 := 168) rfl ?_
      obtain ⟨x15, ex15, hf⟩ := ltb_s hf
      refine e_iinc dX12_rests_168 5 rfl (c9 := 1) (by decide) ex15.symm (by decide) (ls' := [(0, .ref 101), (1, .int v1), (2, .int v2), (3, .int v3), (4, .int v4), (5, .int x15)]) [1, 2, 3, 4, 5, 0] rfl (pc2 := 171) rfl ?_
      refine e_goto (tgt := 99) dX12_rests_171 (by decide) ?_
      exact hk99 x15 s13 hf
    · have hf := if_f c12 hf
      refine e_aload_n dX12_rests_128 0 rfl rfl (pc2 := 129) rfl ?_
      refine e_iload dX12_rests_129 5 rfl (pc2 := 131) rfl ?_
      refine e_callVs (t_X12_isBuyer v5 s rfl) dX12_rests_131 cv_X12_510 rfl so_101 rc_11 (by decide) (by first | exact Nat.le_of_ble_eq_true rfl | simp [rva_cat, vc_i, vc_r, vc_l, vc_n]) nn0 rfl (pc2 := 134) rfl ?_
      refine e_if_ne (tgt := 141) dX12_rests_134 (by decide) (pc2 := 137) rfl (fun c16 => ?_) (fun c16 => ?_)
      · have hf := if_f c16 hf
        refine e_bipush (x := 10) dX12_rests_141 (by decide) (pc2 := 143) rfl ?_
        refine e_aload_n dX12_rests_143 0 rfl rfl (pc2 := 144) rfl ?_
        refine e_getR (r := 152) fl_X12_169 dX12_rests_144 so_101 (rs_101_69 s.2.2) (by decide) (pc2 := 147) rfl ?_
        refine e_iload dX12_rests_147 5 rfl (pc2 := 149) rfl ?_
        obtain ⟨g17, hf⟩ := gd_some hf
        refine e_iald dX12_rests_149 sa_152 (inb_v g17) (pc2 := 150) rfl ?_
        obtain ⟨y18, hy18, hf⟩ := bnd_s hf
        refine e_callSs (t_X12_bits (s.1 152 v5.toNatClampNeg) s hy18) dX12_rests_150 cs_X12_504 rfl (by decide) (by first | exact Nat.le_of_ble_eq_true rfl | simp [rva_cat, vc_i, vc_r, vc_l, vc_n]) nn0 rfl (pc2 := 153) rfl ?_
        refine e_imul dX12_rests_153 (pc2 := 154) rfl ?_
        refine e_iconst (x := 3) dX12_rests_154 (by decide) (pc2 := 155) rfl ?_
        refine e_isub dX12_rests_155 (pc2 := 156) rfl ?_
        refine e_bipush (x := 50) dX12_rests_156 (by decide) (pc2 := 158) rfl ?_
        refine e_aload_n dX12_rests_158 0 rfl rfl (pc2 := 159) rfl ?_
        refine e_getR (r := 154) fl_X12_175 dX12_rests_159 so_101 (rs_101_71 s.2.2) (by decide) (pc2 := 162) rfl ?_
        refine e_iload dX12_rests_162 5 rfl (pc2 := 164) rfl ?_
        obtain ⟨g19, hf⟩ := gd_some hf
        refine e_iald dX12_rests_164 sa_154 (inb_v g19) (pc2 := 165) rfl ?_
        refine e_imul dX12_rests_165 (pc2 := 166) rfl ?_
        refine e_isub dX12_rests_166 (pc2 := 167) rfl ?_
        obtain ⟨g21, hf⟩ := gd_some hf
        obtain ⟨s20, es20, hf⟩ := ltb_s hf
        refine e_iast dX12_rests_167 sa_157 (inb_v g21) (h2 := hp s20) (by rw [es20]; rfl) (pc2 := 168) rfl ?_
        obtain ⟨x22, ex22, hf⟩ := ltb_s hf
        refine e_iinc dX12_rests_168 5 rfl (c9 := 1) (by decide) ex22.symm (by decide) (ls' := [(0, .ref 101), (1, .int v1), (2, .int v2), (3, .int v3), (4, .int v4), (5, .int x22)]) [1, 2, 3, 4, 5, 0] rfl (pc2 := 171) rfl ?_
        refine e_goto (tgt := 99) dX12_rests_171 (by decide) ?_
        exact hk99 x22 s20 hf
      · have hf := if_t c16 hf
        refine e_iconst (x := 0) dX12_rests_137 (by decide) (pc2 := 138) rfl ?_
        refine e_goto (tgt := 167) dX12_rests_138 (by decide) ?_
        obtain ⟨g24, hf⟩ := gd_some hf
        obtain ⟨s23, es23, hf⟩ := ltb_s hf
        refine e_iast dX12_rests_167 sa_157 (inb_v g24) (h2 := hp s23) (by rw [es23]; rfl) (pc2 := 168) rfl ?_
        obtain ⟨x25, ex25, hf⟩ := ltb_s hf
        refine e_iinc dX12_rests_168 5 rfl (c9 := 1) (by decide) ex25.symm (by decide) (ls' := [(0, .ref 101), (1, .int v1), (2, .int v2), (3, .int v3), (4, .int v4), (5, .int x25)]) [1, 2, 3, 4, 5, 0] rfl (pc2 := 171) rfl ?_
        refine e_goto (tgt := 99) dX12_rests_171 (by decide) ?_
        exact hk99 x25 s23 hf
def f_X12_rests_l99 (v1 : Int32) (v2 : Int32) (v3 : Int32) (v4 : Int32) (k174 : HS → Option (Int32 × HS)) : Nat → Int32 → HS → Option (Int32 × HS)
  | 0, _, _ => none
  | n + 1, v5, s => f_X12_rests_l99b v1 v2 v3 v4 v5 (f_X12_rests_l99 v1 v2 v3 v4 k174 n) k174 s
set_option maxRecDepth 20000 in
set_option maxHeartbeats 2000000 in
theorem t_X12_rests_l99 (v1 : Int32) (v2 : Int32) (v3 : Int32) (v4 : Int32) {x : Int32} {t : HS} (k174 : HS → Option (Int32 × HS)) (hk174 : ∀ (s : HS), k174 s = some (x, t) → Ev DDX12_rests miX12_rests NF (some (.int x)) NF (hp t) 174 NF [(0, .ref 101), (1, .int v1), (2, .int v2), (3, .int v3), (4, .int v4)] [] (hp s)) : ∀ (n : Nat) (v5 : Int32) (s : HS), f_X12_rests_l99 v1 v2 v3 v4 k174 n v5 s = some (x, t) → Ev DDX12_rests miX12_rests NF (some (.int x)) NF (hp t) 99 NF [(0, .ref 101), (1, .int v1), (2, .int v2), (3, .int v3), (4, .int v4), (5, .int v5)] [] (hp s) := by
  intro n
  induction n with
  | zero =>
    intro v5 s hf
    have hf : none = some (x, t) := hf
    cases hf
  | succ n ih =>
    intro v5 s hf
    exact t_X12_rests_l99b v1 v2 v3 v4 v5  s _ ih _ hk174 hf
def f_X12_rests_l58b (v1 : Int32) (v2 : Int32) (v3 : Int32) (v4 : Int32) (k58 : Int32 → HS → Option (Int32 × HS)) (k180 : HS → Option (Int32 × HS)) (s : HS) : Option (Int32 × HS) :=
  (if (f_X12_allBuyers s) < v4 then k180 s else (if (v4 &&& (v1 ^^^ ((-1) : Int32))) = (v3 &&& (v1 ^^^ ((-1) : Int32))) then ltb (sI s 145 (0) v4) fun s8 => bnd (f_X12_runs s8) fun s10 => f_X12_rests_l99 v1 v2 v3 v4 (fun s26 => ltb (v4 + 1) fun x27 => k58 x27 s26) FU 0 s10 else ltb (v4 + 1) fun x28 => k58 x28 s))
set_option maxRecDepth 20000 in
set_option maxHeartbeats 2000000 in
theorem t_X12_rests_l58b (v1 : Int32) (v2 : Int32) (v3 : Int32) (v4 : Int32) (s : HS) {x : Int32} {t : HS} (k58 : Int32 → HS → Option (Int32 × HS)) (hk58 : ∀ (a4 : Int32) (s : HS), k58 a4 s = some (x, t) → Ev DDX12_rests miX12_rests NF (some (.int x)) NF (hp t) 58 NF [(0, .ref 101), (1, .int v1), (2, .int v2), (3, .int v3), (4, .int a4)] [] (hp s)) (k180 : HS → Option (Int32 × HS)) (hk180 : ∀ (s : HS), k180 s = some (x, t) → Ev DDX12_rests miX12_rests NF (some (.int x)) NF (hp t) 180 NF [(0, .ref 101), (1, .int v1), (2, .int v2), (3, .int v3)] [] (hp s)) (hf : f_X12_rests_l58b v1 v2 v3 v4 k58 k180 s = some (x, t)) : Ev DDX12_rests miX12_rests NF (some (.int x)) NF (hp t) 58 NF [(0, .ref 101), (1, .int v1), (2, .int v2), (3, .int v3), (4, .int v4)] [] (hp s) := by
  refine e_iload dX12_rests_58 4 rfl (pc2 := 60) rfl ?_
  refine e_aload_n dX12_rests_60 0 rfl rfl (pc2 := 61) rfl ?_
  refine e_callVs (t_X12_allBuyers  s rfl) dX12_rests_61 cv_X12_558 rfl so_101 rc_11 (by decide) (by first | exact Nat.le_of_ble_eq_true rfl | simp [rva_cat, vc_i, vc_r, vc_l, vc_n]) nn0 rfl (pc2 := 64) rfl ?_
  refine e_icmp_gt (tgt := 180) dX12_rests_64 (by decide) (pc2 := 67) rfl (fun c6 => ?_) (fun c6 => ?_)
  · have hf := if_t c6 hf
    refine ev_sub [0, 1, 2, 3] rfl ?_
    exact hk180 s hf
  · have hf := if_f c6 hf
    refine e_iload dX12_rests_67 4 rfl (pc2 := 69) rfl ?_
    refine e_iload_n dX12_rests_69 1 rfl rfl (pc2 := 70) rfl ?_
    refine e_iconst (x := (-1)) dX12_rests_70 (by decide) (pc2 := 71) rfl ?_
    refine e_ixor dX12_rests_71 (pc2 := 72) rfl ?_
    refine e_iand dX12_rests_72 (pc2 := 73) rfl ?_
    refine e_iload_n dX12_rests_73 3 rfl rfl (pc2 := 74) rfl ?_
    refine e_iload_n dX12_rests_74 1 rfl rfl (pc2 := 75) rfl ?_
    refine e_iconst (x := (-1)) dX12_rests_75 (by decide) (pc2 := 76) rfl ?_
    refine e_ixor dX12_rests_76 (pc2 := 77) rfl ?_
    refine e_iand dX12_rests_77 (pc2 := 78) rfl ?_
    refine e_icmp_eq (tgt := 84) dX12_rests_78 (by decide) (pc2 := 81) rfl (fun c7 => ?_) (fun c7 => ?_)
    · have hf := if_t c7 hf
      refine e_aload_n dX12_rests_84 0 rfl rfl (pc2 := 85) rfl ?_
      refine e_getR (r := 145) fl_X12_141 dX12_rests_85 so_101 (rs_101_55 s.2.2) (by decide) (pc2 := 88) rfl ?_
      refine e_iconst (x := 0) dX12_rests_88 (by decide) (pc2 := 89) rfl ?_
      refine e_iload dX12_rests_89 4 rfl (pc2 := 91) rfl ?_
      obtain ⟨s8, es8, hf⟩ := ltb_s hf
      refine e_iast dX12_rests_91 sa_145 (inb_v (by decide)) (h2 := hp s8) (by rw [es8]; rfl) (pc2 := 92) rfl ?_
      refine e_aload_n dX12_rests_92 0 rfl rfl (pc2 := 93) rfl ?_
      obtain ⟨s10, hy9, hf⟩ := bnd_s hf
      refine e_callVn (t_X12_runs  s8 hy9) dX12_rests_93 cv_X12_528 rfl so_101 rc_11 (by decide) (by first | exact Nat.le_of_ble_eq_true rfl | simp [rva_cat, vc_i, vc_r, vc_l, vc_n]) nn0 rfl (pc2 := 96) rfl ?_
      refine e_iconst (x := 0) dX12_rests_96 (by decide) (pc2 := 97) rfl ?_
      refine e_istore dX12_rests_97 (by decide) rfl (ls' := [(0, .ref 101), (1, .int v1), (2, .int v2), (3, .int v3), (4, .int v4), (5, .int 0)]) [1, 2, 3, 4, 5, 0] rfl (pc2 := 99) rfl ?_
      refine t_X12_rests_l99 v1 v2 v3 v4 _ ?_ FU 0 s10 hf
      · intro s26 hf
        obtain ⟨x27, ex27, hf⟩ := ltb_s hf
        refine e_iinc dX12_rests_174 4 rfl (c9 := 1) (by decide) ex27.symm (by decide) (ls' := [(0, .ref 101), (1, .int v1), (2, .int v2), (3, .int v3), (4, .int x27)]) [1, 2, 3, 4, 0] rfl (pc2 := 177) rfl ?_
        refine e_goto (tgt := 58) dX12_rests_177 (by decide) ?_
        exact hk58 x27 s26 hf
    · have hf := if_f c7 hf
      refine e_goto (tgt := 174) dX12_rests_81 (by decide) ?_
      obtain ⟨x28, ex28, hf⟩ := ltb_s hf
      refine e_iinc dX12_rests_174 4 rfl (c9 := 1) (by decide) ex28.symm (by decide) (ls' := [(0, .ref 101), (1, .int v1), (2, .int v2), (3, .int v3), (4, .int x28)]) [1, 2, 3, 4, 0] rfl (pc2 := 177) rfl ?_
      refine e_goto (tgt := 58) dX12_rests_177 (by decide) ?_
      exact hk58 x28 s hf
def f_X12_rests_l58 (v1 : Int32) (v2 : Int32) (v3 : Int32) (k180 : HS → Option (Int32 × HS)) : Nat → Int32 → HS → Option (Int32 × HS)
  | 0, _, _ => none
  | n + 1, v4, s => f_X12_rests_l58b v1 v2 v3 v4 (f_X12_rests_l58 v1 v2 v3 k180 n) k180 s
set_option maxRecDepth 20000 in
set_option maxHeartbeats 2000000 in
theorem t_X12_rests_l58 (v1 : Int32) (v2 : Int32) (v3 : Int32) {x : Int32} {t : HS} (k180 : HS → Option (Int32 × HS)) (hk180 : ∀ (s : HS), k180 s = some (x, t) → Ev DDX12_rests miX12_rests NF (some (.int x)) NF (hp t) 180 NF [(0, .ref 101), (1, .int v1), (2, .int v2), (3, .int v3)] [] (hp s)) : ∀ (n : Nat) (v4 : Int32) (s : HS), f_X12_rests_l58 v1 v2 v3 k180 n v4 s = some (x, t) → Ev DDX12_rests miX12_rests NF (some (.int x)) NF (hp t) 58 NF [(0, .ref 101), (1, .int v1), (2, .int v2), (3, .int v3), (4, .int v4)] [] (hp s) := by
  intro n
  induction n with
  | zero =>
    intro v4 s hf
    have hf : none = some (x, t) := hf
    cases hf
  | succ n ih =>
    intro v4 s hf
    exact t_X12_rests_l58b v1 v2 v3 v4  s _ ih _ hk180 hf
def f_X12_rests_l225b (v1 : Int32) (v2 : Int32) (v3 : Int32) (v4 : Int32) (v5 : Int32) (v6 : Int32) (v7 : Int32) (k225 : Int32 → Int32 → HS → Option (Int32 × HS)) (k289 : Int32 → HS → Option (Int32 × HS)) (s : HS) : Option (Int32 × HS) :=
  (if (s.1 103 2) ≤ v7 then k289 v6 s else (if ((v1 >>> (v7 &&& 31)) &&& (1 : Int32)) = 1 then gd (inb ((6 * (v5 ^^^ ((1 : Int32) <<< (v7 &&& 31)))) + v7) 384) (gd (inb ((6 * v5) + v7) 384) ((if (s.1 157 ((6 * (v5 ^^^ ((1 : Int32) <<< (v7 &&& 31)))) + v7).toNatClampNeg) ≤ (s.1 157 ((6 * v5) + v7).toNatClampNeg) then ltb (v7 + 1) fun x40 => k225 v6 x40 s else ltb (v7 + 1) fun x41 => k225 0 x41 s))) else ltb (v7 + 1) fun x36 => k225 v6 x36 s))
set_option maxRecDepth 20000 in
set_option maxHeartbeats 2000000 in
theorem t_X12_rests_l225b (v1 : Int32) (v2 : Int32) (v3 : Int32) (v4 : Int32) (v5 : Int32) (v6 : Int32) (v7 : Int32) (s : HS) {x : Int32} {t : HS} (k225 : Int32 → Int32 → HS → Option (Int32 × HS)) (hk225 : ∀ (a6 : Int32) (a7 : Int32) (s : HS), k225 a6 a7 s = some (x, t) → Ev DDX12_rests miX12_rests NF (some (.int x)) NF (hp t) 225 NF [(0, .ref 101), (1, .int v1), (2, .int v2), (3, .int v3), (4, .int v4), (5, .int v5), (6, .int a6), (7, .int a7)] [] (hp s)) (k289 : Int32 → HS → Option (Int32 × HS)) (hk289 : ∀ (a6 : Int32) (s : HS), k289 a6 s = some (x, t) → Ev DDX12_rests miX12_rests NF (some (.int x)) NF (hp t) 289 NF [(0, .ref 101), (1, .int v1), (2, .int v2), (3, .int v3), (4, .int v4), (5, .int v5), (6, .int a6)] [] (hp s)) (hf : f_X12_rests_l225b v1 v2 v3 v4 v5 v6 v7 k225 k289 s = some (x, t)) : Ev DDX12_rests miX12_rests NF (some (.int x)) NF (hp t) 225 NF [(0, .ref 101), (1, .int v1), (2, .int v2), (3, .int v3), (4, .int v4), (5, .int v5), (6, .int v6), (7, .int v7)] [] (hp s) := by
  refine e_iload dX12_rests_225 7 rfl (pc2 := 227) rfl ?_
  refine e_aload_n dX12_rests_227 0 rfl rfl (pc2 := 228) rfl ?_
  refine e_getR (r := 103) fl_X12_13 dX12_rests_228 so_101 (rs_101_10 s.2.2) (by decide) (pc2 := 231) rfl ?_
  refine e_iconst (x := 2) dX12_rests_231 (by decide) (pc2 := 232) rfl ?_
  refine e_iald dX12_rests_232 sa_103 (inb_v (by decide)) (pc2 := 233) rfl ?_
  refine e_icmp_ge (tgt := 289) dX12_rests_233 (by decide) (pc2 := 236) rfl (fun c34 => ?_) (fun c34 => ?_)
  · have hf := if_t c34 hf
    refine ev_sub [0, 1, 2, 3, 4, 5, 6] rfl ?_
    exact hk289 v6 s hf
  · have hf := if_f c34 hf
    refine e_iload_n dX12_rests_236 1 rfl rfl (pc2 := 237) rfl ?_
    refine e_iload dX12_rests_237 7 rfl (pc2 := 239) rfl ?_
    refine e_ishr dX12_rests_239 (pc2 := 240) rfl ?_
    refine e_iconst (x := 1) dX12_rests_240 (by decide) (pc2 := 241) rfl ?_
    refine e_iand dX12_rests_241 (pc2 := 242) rfl ?_
    refine e_iconst (x := 1) dX12_rests_242 (by decide) (pc2 := 243) rfl ?_
    refine e_icmp_ne (tgt := 283) dX12_rests_243 (by decide) (pc2 := 246) rfl (fun c35 => ?_) (fun c35 => ?_)
    · have hf := if_f c35 hf
      obtain ⟨x36, ex36, hf⟩ := ltb_s hf
      refine e_iinc dX12_rests_283 7 rfl (c9 := 1) (by decide) ex36.symm (by decide) (ls' := [(0, .ref 101), (1, .int v1), (2, .int v2), (3, .int v3), (4, .int v4), (5, .int v5), (6, .int v6), (7, .int x36)]) [1, 2, 3, 4, 5, 6, 7, 0] rfl (pc2 := 286) rfl ?_
      refine e_goto (tgt := 225) dX12_rests_286 (by decide) ?_
      exact hk225 v6 x36 s hf
    · have hf := if_t c35 hf
      refine e_aload_n dX12_rests_246 0 rfl rfl (pc2 := 247) rfl ?_
      refine e_getR (r := 157) fl_X12_184 dX12_rests_247 so_101 (rs_101_76 s.2.2) (by decide) (pc2 := 250) rfl ?_
      refine e_bipush (x := 6) dX12_rests_250 (by decide) (pc2 := 252) rfl ?_
      refine e_iload dX12_rests_252 5 rfl (pc2 := 254) rfl ?_
      refine e_iconst (x := 1) dX12_rests_254 (by decide) (pc2 := 255) rfl ?_
      refine e_iload dX12_rests_255 7 rfl (pc2 := 257) rfl ?_
      refine e_ishl dX12_rests_257 (pc2 := 258) rfl ?_
      refine e_ixor dX12_rests_258 (pc2 := 259) rfl ?_
      refine e_imul dX12_rests_259 (pc2 := 260) rfl ?_
      refine e_iload dX12_rests_260 7 rfl (pc2 := 262) rfl ?_
      refine e_iadd dX12_rests_262 (pc2 := 263) rfl ?_
      obtain ⟨g37, hf⟩ := gd_some hf
      refine e_iald dX12_rests_263 sa_157 (inb_v g37) (pc2 := 264) rfl ?_
      refine e_aload_n dX12_rests_264 0 rfl rfl (pc2 := 265) rfl ?_
      refine e_getR (r := 157) fl_X12_184 dX12_rests_265 so_101 (rs_101_76 s.2.2) (by decide) (pc2 := 268) rfl ?_
      refine e_bipush (x := 6) dX12_rests_268 (by decide) (pc2 := 270) rfl ?_
      refine e_iload dX12_rests_270 5 rfl (pc2 := 272) rfl ?_
      refine e_imul dX12_rests_272 (pc2 := 273) rfl ?_
      refine e_iload dX12_rests_273 7 rfl (pc2 := 275) rfl ?_
      refine e_iadd dX12_rests_275 (pc2 := 276) rfl ?_
      obtain ⟨g38, hf⟩ := gd_some hf
      refine e_iald dX12_rests_276 sa_157 (inb_v g38) (pc2 := 277) rfl ?_
      refine e_icmp_le (tgt := 283) dX12_rests_277 (by decide) (pc2 := 280) rfl (fun c39 => ?_) (fun c39 => ?_)
      · have hf := if_t c39 hf
        obtain ⟨x40, ex40, hf⟩ := ltb_s hf
        refine e_iinc dX12_rests_283 7 rfl (c9 := 1) (by decide) ex40.symm (by decide) (ls' := [(0, .ref 101), (1, .int v1), (2, .int v2), (3, .int v3), (4, .int v4), (5, .int v5), (6, .int v6), (7, .int x40)]) [1, 2, 3, 4, 5, 6, 7, 0] rfl (pc2 := 286) rfl ?_
        refine e_goto (tgt := 225) dX12_rests_286 (by decide) ?_
        exact hk225 v6 x40 s hf
      · have hf := if_f c39 hf
        refine e_iconst (x := 0) dX12_rests_280 (by decide) (pc2 := 281) rfl ?_
        refine e_istore dX12_rests_281 (by decide) rfl (ls' := [(0, .ref 101), (1, .int v1), (2, .int v2), (3, .int v3), (4, .int v4), (5, .int v5), (6, .int 0), (7, .int v7)]) [1, 2, 3, 4, 5, 6, 0, 7] rfl (pc2 := 283) rfl ?_
        obtain ⟨x41, ex41, hf⟩ := ltb_s hf
        refine e_iinc dX12_rests_283 7 rfl (c9 := 1) (by decide) ex41.symm (by decide) (ls' := [(0, .ref 101), (1, .int v1), (2, .int v2), (3, .int v3), (4, .int v4), (5, .int v5), (6, .int 0), (7, .int x41)]) [1, 2, 3, 4, 5, 6, 7, 0] rfl (pc2 := 286) rfl ?_
        refine e_goto (tgt := 225) dX12_rests_286 (by decide) ?_
        exact hk225 0 x41 s hf
def f_X12_rests_l225 (v1 : Int32) (v2 : Int32) (v3 : Int32) (v4 : Int32) (v5 : Int32) (k289 : Int32 → HS → Option (Int32 × HS)) : Nat → Int32 → Int32 → HS → Option (Int32 × HS)
  | 0, _, _, _ => none
  | n + 1, v6, v7, s => f_X12_rests_l225b v1 v2 v3 v4 v5 v6 v7 (f_X12_rests_l225 v1 v2 v3 v4 v5 k289 n) k289 s
set_option maxRecDepth 20000 in
set_option maxHeartbeats 2000000 in
theorem t_X12_rests_l225 (v1 : Int32) (v2 : Int32) (v3 : Int32) (v4 : Int32) (v5 : Int32) {x : Int32} {t : HS} (k289 : Int32 → HS → Option (Int32 × HS)) (hk289 : ∀ (a6 : Int32) (s : HS), k289 a6 s = some (x, t) → Ev DDX12_rests miX12_rests NF (some (.int x)) NF (hp t) 289 NF [(0, .ref 101), (1, .int v1), (2, .int v2), (3, .int v3), (4, .int v4), (5, .int v5), (6, .int a6)] [] (hp s)) : ∀ (n : Nat) (v6 : Int32) (v7 : Int32) (s : HS), f_X12_rests_l225 v1 v2 v3 v4 v5 k289 n v6 v7 s = some (x, t) → Ev DDX12_rests miX12_rests NF (some (.int x)) NF (hp t) 225 NF [(0, .ref 101), (1, .int v1), (2, .int v2), (3, .int v3), (4, .int v4), (5, .int v5), (6, .int v6), (7, .int v7)] [] (hp s) := by
  intro n
  induction n with
  | zero =>
    intro v6 v7 s hf
    have hf : none = some (x, t) := hf
    cases hf
  | succ n ih =>
    intro v6 v7 s hf
    exact t_X12_rests_l225b v1 v2 v3 v4 v5 v6 v7  s _ ih _ hk289 hf
def f_X12_rests_l193b (v1 : Int32) (v2 : Int32) (v3 : Int32) (v4 : Int32) (v5 : Int32) (k193 : Int32 → Int32 → HS → Option (Int32 × HS)) (k317 : Int32 → HS → Option (Int32 × HS)) (s : HS) : Option (Int32 × HS) :=
  (if (f_X12_allBuyers s) < v5 then k317 v4 s else (if (v5 &&& (v1 ^^^ ((-1) : Int32))) = (v3 &&& (v1 ^^^ ((-1) : Int32))) then f_X12_rests_l225 v1 v2 v3 v4 v5 (fun v42 s43 => (if v42 = 0 then ltb (v5 + 1) fun x48 => k193 v4 x48 s43 else (if v4 = v2 then some (v5 &&& v1, s43) else ltb (v4 + 1) fun x46 => ltb (v5 + 1) fun x47 => k193 x46 x47 s43))) FU 1 0 s else ltb (v5 + 1) fun x49 => k193 v4 x49 s))
set_option maxRecDepth 20000 in
set_option maxHeartbeats 2000000 in
theorem t_X12_rests_l193b (v1 : Int32) (v2 : Int32) (v3 : Int32) (v4 : Int32) (v5 : Int32) (s : HS) {x : Int32} {t : HS} (k193 : Int32 → Int32 → HS → Option (Int32 × HS)) (hk193 : ∀ (a4 : Int32) (a5 : Int32) (s : HS), k193 a4 a5 s = some (x, t) → Ev DDX12_rests miX12_rests NF (some (.int x)) NF (hp t) 193 NF [(0, .ref 101), (1, .int v1), (2, .int v2), (3, .int v3), (4, .int a4), (5, .int a5)] [] (hp s)) (k317 : Int32 → HS → Option (Int32 × HS)) (hk317 : ∀ (a4 : Int32) (s : HS), k317 a4 s = some (x, t) → Ev DDX12_rests miX12_rests NF (some (.int x)) NF (hp t) 317 NF [(0, .ref 101), (2, .int v2), (4, .int a4)] [] (hp s)) (hf : f_X12_rests_l193b v1 v2 v3 v4 v5 k193 k317 s = some (x, t)) : Ev DDX12_rests miX12_rests NF (some (.int x)) NF (hp t) 193 NF [(0, .ref 101), (1, .int v1), (2, .int v2), (3, .int v3), (4, .int v4), (5, .int v5)] [] (hp s) := by
  refine e_iload dX12_rests_193 5 rfl (pc2 := 195) rfl ?_
  refine e_aload_n dX12_rests_195 0 rfl rfl (pc2 := 196) rfl ?_
  refine e_callVs (t_X12_allBuyers  s rfl) dX12_rests_196 cv_X12_558 rfl so_101 rc_11 (by decide) (by first | exact Nat.le_of_ble_eq_true rfl | simp [rva_cat, vc_i, vc_r, vc_l, vc_n]) nn0 rfl (pc2 := 199) rfl ?_
  refine e_icmp_gt (tgt := 317) dX12_rests_199 (by decide) (pc2 := 202) rfl (fun c31 => ?_) (fun c31 => ?_)
  · have hf := if_t c31 hf
    refine ev_sub [0, 2, 4] rfl ?_
    exact hk317 v4 s hf
  · have hf := if_f c31 hf
    refine e_iload dX12_rests_202 5 rfl (pc2 := 204) rfl ?_
    refine e_iload_n dX12_rests_204 1 rfl rfl (pc2 := 205) rfl ?_
    refine e_iconst (x := (-1)) dX12_rests_205 (by decide) (pc2 := 206) rfl ?_
    refine e_ixor dX12_rests_206 (pc2 := 207) rfl ?_
    refine e_iand dX12_rests_207 (pc2 := 208) rfl ?_
    refine e_iload_n dX12_rests_208 3 rfl rfl (pc2 := 209) rfl ?_
    refine e_iload_n dX12_rests_209 1 rfl rfl (pc2 := 210) rfl ?_
    refine e_iconst (x := (-1)) dX12_rests_210 (by decide) (pc2 := 211) rfl ?_
    refine e_ixor dX12_rests_211 (pc2 := 212) rfl ?_
    refine e_iand dX12_rests_212 (pc2 := 213) rfl ?_
    refine e_icmp_eq (tgt := 219) dX12_rests_213 (by decide) (pc2 := 216) rfl (fun c32 => ?_) (fun c32 => ?_)
    · have hf := if_t c32 hf
      refine e_iconst (x := 1) dX12_rests_219 (by decide) (pc2 := 220) rfl ?_
      refine e_istore dX12_rests_220 (by decide) rfl (ls' := [(0, .ref 101), (1, .int v1), (2, .int v2), (3, .int v3), (4, .int v4), (5, .int v5), (6, .int 1)]) [1, 2, 3, 4, 5, 6, 0] rfl (pc2 := 222) rfl ?_
      refine e_iconst (x := 0) dX12_rests_222 (by decide) (pc2 := 223) rfl ?_
      refine e_istore dX12_rests_223 (by decide) rfl (ls' := [(0, .ref 101), (1, .int v1), (2, .int v2), (3, .int v3), (4, .int v4), (5, .int v5), (6, .int 1), (7, .int 0)]) [1, 2, 3, 4, 5, 6, 7, 0] rfl (pc2 := 225) rfl ?_
      refine t_X12_rests_l225 v1 v2 v3 v4 v5 _ ?_ FU 1 0 s hf
      · intro v42 s43 hf
        refine e_iload dX12_rests_289 6 rfl (pc2 := 291) rfl ?_
        refine e_if_ne (tgt := 297) dX12_rests_291 (by decide) (pc2 := 294) rfl (fun c44 => ?_) (fun c44 => ?_)
        · have hf := if_f c44 hf
          refine e_iload dX12_rests_297 4 rfl (pc2 := 299) rfl ?_
          refine e_iload_n dX12_rests_299 2 rfl rfl (pc2 := 300) rfl ?_
          refine e_icmp_ne (tgt := 308) dX12_rests_300 (by decide) (pc2 := 303) rfl (fun c45 => ?_) (fun c45 => ?_)
          · have hf := if_f c45 hf
            obtain ⟨x46, ex46, hf⟩ := ltb_s hf
            refine e_iinc dX12_rests_308 4 rfl (c9 := 1) (by decide) ex46.symm (by decide) (ls' := [(0, .ref 101), (1, .int v1), (2, .int v2), (3, .int v3), (4, .int x46), (5, .int v5)]) [1, 2, 3, 4, 0, 5] rfl (pc2 := 311) rfl ?_
            obtain ⟨x47, ex47, hf⟩ := ltb_s hf
            refine e_iinc dX12_rests_311 5 rfl (c9 := 1) (by decide) ex47.symm (by decide) (ls' := [(0, .ref 101), (1, .int v1), (2, .int v2), (3, .int v3), (4, .int x46), (5, .int x47)]) [1, 2, 3, 4, 5, 0] rfl (pc2 := 314) rfl ?_
            refine e_goto (tgt := 193) dX12_rests_314 (by decide) ?_
            exact hk193 x46 x47 s43 hf
          · have hf := if_t c45 hf
            refine e_iload dX12_rests_303 5 rfl (pc2 := 305) rfl ?_
            refine e_iload_n dX12_rests_305 1 rfl rfl (pc2 := 306) rfl ?_
            refine e_iand dX12_rests_306 (pc2 := 307) rfl ?_
            cases hf
            exact e_iret rfl dX12_rests_307
        · have hf := if_t c44 hf
          refine e_goto (tgt := 311) dX12_rests_294 (by decide) ?_
          obtain ⟨x48, ex48, hf⟩ := ltb_s hf
          refine e_iinc dX12_rests_311 5 rfl (c9 := 1) (by decide) ex48.symm (by decide) (ls' := [(0, .ref 101), (1, .int v1), (2, .int v2), (3, .int v3), (4, .int v4), (5, .int x48)]) [1, 2, 3, 4, 5, 0] rfl (pc2 := 314) rfl ?_
          refine e_goto (tgt := 193) dX12_rests_314 (by decide) ?_
          exact hk193 v4 x48 s43 hf
    · have hf := if_f c32 hf
      refine e_goto (tgt := 311) dX12_rests_216 (by decide) ?_
      obtain ⟨x49, ex49, hf⟩ := ltb_s hf
      refine e_iinc dX12_rests_311 5 rfl (c9 := 1) (by decide) ex49.symm (by decide) (ls' := [(0, .ref 101), (1, .int v1), (2, .int v2), (3, .int v3), (4, .int v4), (5, .int x49)]) [1, 2, 3, 4, 5, 0] rfl (pc2 := 314) rfl ?_
      refine e_goto (tgt := 193) dX12_rests_314 (by decide) ?_
      exact hk193 v4 x49 s hf
def f_X12_rests_l193 (v1 : Int32) (v2 : Int32) (v3 : Int32) (k317 : Int32 → HS → Option (Int32 × HS)) : Nat → Int32 → Int32 → HS → Option (Int32 × HS)
  | 0, _, _, _ => none
  | n + 1, v4, v5, s => f_X12_rests_l193b v1 v2 v3 v4 v5 (f_X12_rests_l193 v1 v2 v3 k317 n) k317 s
set_option maxRecDepth 20000 in
set_option maxHeartbeats 2000000 in
theorem t_X12_rests_l193 (v1 : Int32) (v2 : Int32) (v3 : Int32) {x : Int32} {t : HS} (k317 : Int32 → HS → Option (Int32 × HS)) (hk317 : ∀ (a4 : Int32) (s : HS), k317 a4 s = some (x, t) → Ev DDX12_rests miX12_rests NF (some (.int x)) NF (hp t) 317 NF [(0, .ref 101), (2, .int v2), (4, .int a4)] [] (hp s)) : ∀ (n : Nat) (v4 : Int32) (v5 : Int32) (s : HS), f_X12_rests_l193 v1 v2 v3 k317 n v4 v5 s = some (x, t) → Ev DDX12_rests miX12_rests NF (some (.int x)) NF (hp t) 193 NF [(0, .ref 101), (1, .int v1), (2, .int v2), (3, .int v3), (4, .int v4), (5, .int v5)] [] (hp s) := by
  intro n
  induction n with
  | zero =>
    intro v4 v5 s hf
    have hf : none = some (x, t) := hf
    cases hf
  | succ n ih =>
    intro v4 v5 s hf
    exact t_X12_rests_l193b v1 v2 v3 v4 v5  s _ ih _ hk317 hf
def f_X12_rests_j35 (v1 : Int32) (v2 : Int32) (w0 : Int32) (s : HS) : Option (Int32 × HS) :=
  ltb (sI s 101 0 w0) fun s2 => (if (s2.1 101 0) = 1 then some (0, s2) else ltb (s2.1 145 0) fun x5 => f_X12_rests_l58 v1 v2 x5 (fun s29 => ltb (sI s29 145 (0) x5) fun s30 => f_X12_rests_l193 v1 v2 x5 (fun v50 s51 => (if v2 = (-1) then ltb (sI s51 101 0 0) fun s55 => (if v2 = (-1) then some (v50, s55) else some (0, s55)) else ltb (sI s51 101 0 1) fun s53 => (if v2 = (-1) then some (v50, s53) else some (0, s53)))) FU 0 0 s30) FU 0 s2)
set_option maxRecDepth 20000 in
set_option maxHeartbeats 2000000 in
theorem t_X12_rests_j35 (v1 : Int32) (v2 : Int32) (w0 : Int32) (s : HS) {x : Int32} {t : HS}  (hf : f_X12_rests_j35 v1 v2 w0 s = some (x, t)) : Ev DDX12_rests miX12_rests NF (some (.int x)) NF (hp t) 35 NF [(0, .ref 101), (1, .int v1), (2, .int v2)] [.int w0, .ref 101] (hp s) := by
  obtain ⟨s2, es2, hf⟩ := ltb_s hf
  refine e_putI fl_X12_194 dX12_rests_35 so_101 fn_11_0 (h2 := hp s2) (by rw [es2]; rfl) (pc2 := 38) rfl ?_
  refine e_aload_n dX12_rests_38 0 rfl rfl (pc2 := 39) rfl ?_
  refine e_getI fl_X12_194 dX12_rests_39 so_101 (by decide) (pc2 := 42) rfl ?_
  refine e_iconst (x := 1) dX12_rests_42 (by decide) (pc2 := 43) rfl ?_
  refine e_icmp_ne (tgt := 48) dX12_rests_43 (by decide) (pc2 := 46) rfl (fun c3 => ?_) (fun c3 => ?_)
  · have hf := if_f c3 hf
    refine e_aload_n dX12_rests_48 0 rfl rfl (pc2 := 49) rfl ?_
    refine e_getR (r := 145) fl_X12_141 dX12_rests_49 so_101 (rs_101_55 s2.2.2) (by decide) (pc2 := 52) rfl ?_
    refine e_iconst (x := 0) dX12_rests_52 (by decide) (pc2 := 53) rfl ?_
    refine e_iald dX12_rests_53 sa_145 (inb_v (by decide)) (pc2 := 54) rfl ?_
    obtain ⟨x5, ex5, hf⟩ := ltb_s hf
    refine e_istore_n dX12_rests_54 rfl (by decide) ex5.symm (ls' := [(0, .ref 101), (1, .int v1), (2, .int v2), (3, .int x5)]) [1, 2, 3, 0] rfl (pc2 := 55) rfl ?_
    refine e_iconst (x := 0) dX12_rests_55 (by decide) (pc2 := 56) rfl ?_
    refine e_istore dX12_rests_56 (by decide) rfl (ls' := [(0, .ref 101), (1, .int v1), (2, .int v2), (3, .int x5), (4, .int 0)]) [1, 2, 3, 4, 0] rfl (pc2 := 58) rfl ?_
    refine t_X12_rests_l58 v1 v2 x5 _ ?_ FU 0 s2 hf
    · intro s29 hf
      refine e_aload_n dX12_rests_180 0 rfl rfl (pc2 := 181) rfl ?_
      refine e_getR (r := 145) fl_X12_141 dX12_rests_181 so_101 (rs_101_55 s29.2.2) (by decide) (pc2 := 184) rfl ?_
      refine e_iconst (x := 0) dX12_rests_184 (by decide) (pc2 := 185) rfl ?_
      refine e_iload_n dX12_rests_185 3 rfl rfl (pc2 := 186) rfl ?_
      obtain ⟨s30, es30, hf⟩ := ltb_s hf
      refine e_iast dX12_rests_186 sa_145 (inb_v (by decide)) (h2 := hp s30) (by rw [es30]; rfl) (pc2 := 187) rfl ?_
      refine e_iconst (x := 0) dX12_rests_187 (by decide) (pc2 := 188) rfl ?_
      refine e_istore dX12_rests_188 (by decide) rfl (ls' := [(0, .ref 101), (1, .int v1), (2, .int v2), (3, .int x5), (4, .int 0)]) [1, 2, 3, 4, 0] rfl (pc2 := 190) rfl ?_
      refine e_iconst (x := 0) dX12_rests_190 (by decide) (pc2 := 191) rfl ?_
      refine e_istore dX12_rests_191 (by decide) rfl (ls' := [(0, .ref 101), (1, .int v1), (2, .int v2), (3, .int x5), (4, .int 0), (5, .int 0)]) [1, 2, 3, 4, 5, 0] rfl (pc2 := 193) rfl ?_
      refine t_X12_rests_l193 v1 v2 x5 _ ?_ FU 0 0 s30 hf
      · intro v50 s51 hf
        refine e_aload_n dX12_rests_317 0 rfl rfl (pc2 := 318) rfl ?_
        refine e_iload_n dX12_rests_318 1 rfl rfl (pc2 := 319) rfl ?_
        refine e_iconst (x := (-1)) dX12_rests_319 (by decide) (pc2 := 320) rfl ?_
        refine e_icmp_ne (tgt := 327) dX12_rests_320 (by decide) (pc2 := 323) rfl (fun c52 => ?_) (fun c52 => ?_)
        · have hf := if_f c52 hf
          refine e_iconst (x := 1) dX12_rests_327 (by decide) (pc2 := 328) rfl ?_
          obtain ⟨s53, es53, hf⟩ := ltb_s hf
          refine e_putI fl_X12_194 dX12_rests_328 so_101 fn_11_0 (h2 := hp s53) (by rw [es53]; rfl) (pc2 := 331) rfl ?_
          refine e_iload_n dX12_rests_331 1 rfl rfl (pc2 := 332) rfl ?_
          refine e_iconst (x := (-1)) dX12_rests_332 (by decide) (pc2 := 333) rfl ?_
          refine e_icmp_ne (tgt := 341) dX12_rests_333 (by decide) (pc2 := 336) rfl (fun c54 => ?_) (fun c54 => ?_)
          · have hf := if_f c54 hf
            refine e_iconst (x := 0) dX12_rests_341 (by decide) (pc2 := 342) rfl ?_
            cases hf
            exact e_iret rfl dX12_rests_342
          · have hf := if_t c54 hf
            refine e_iload dX12_rests_336 2 rfl (pc2 := 338) rfl ?_
            refine e_goto (tgt := 342) dX12_rests_338 (by decide) ?_
            cases hf
            exact e_iret rfl dX12_rests_342
        · have hf := if_t c52 hf
          refine e_iconst (x := 0) dX12_rests_323 (by decide) (pc2 := 324) rfl ?_
          refine e_goto (tgt := 328) dX12_rests_324 (by decide) ?_
          obtain ⟨s55, es55, hf⟩ := ltb_s hf
          refine e_putI fl_X12_194 dX12_rests_328 so_101 fn_11_0 (h2 := hp s55) (by rw [es55]; rfl) (pc2 := 331) rfl ?_
          refine e_iload_n dX12_rests_331 1 rfl rfl (pc2 := 332) rfl ?_
          refine e_iconst (x := (-1)) dX12_rests_332 (by decide) (pc2 := 333) rfl ?_
          refine e_icmp_ne (tgt := 341) dX12_rests_333 (by decide) (pc2 := 336) rfl (fun c56 => ?_) (fun c56 => ?_)
          · have hf := if_f c56 hf
            refine e_iconst (x := 0) dX12_rests_341 (by decide) (pc2 := 342) rfl ?_
            cases hf
            exact e_iret rfl dX12_rests_342
          · have hf := if_t c56 hf
            refine e_iload dX12_rests_336 2 rfl (pc2 := 338) rfl ?_
            refine e_goto (tgt := 342) dX12_rests_338 (by decide) ?_
            cases hf
            exact e_iret rfl dX12_rests_342
  · have hf := if_t c3 hf
    refine e_iconst (x := 0) dX12_rests_46 (by decide) (pc2 := 47) rfl ?_
    cases hf
    exact e_iret rfl dX12_rests_47
def f_X12_rests_j34 (v1 : Int32) (v2 : Int32) (s : HS) : Option (Int32 × HS) :=
  f_X12_rests_j35 v1 v2 1 s
set_option maxRecDepth 20000 in
set_option maxHeartbeats 2000000 in
theorem t_X12_rests_j34 (v1 : Int32) (v2 : Int32) (s : HS) {x : Int32} {t : HS}  (hf : f_X12_rests_j34 v1 v2 s = some (x, t)) : Ev DDX12_rests miX12_rests NF (some (.int x)) NF (hp t) 34 NF [(0, .ref 101), (1, .int v1), (2, .int v2)] [.ref 101] (hp s) := by
  refine e_iconst (x := 1) dX12_rests_34 (by decide) (pc2 := 35) rfl ?_
  exact t_X12_rests_j35 v1 v2 1 s hf
def f_X12_rests (v1 : Int32) (v2 : Int32) (s : HS) : Option (Int32 × HS) :=
  (if v1 < 0 then f_X12_rests_j34 v1 v2 s else (if (f_X12_allBuyers s) < v1 then f_X12_rests_j34 v1 v2 s else bnd (f_X12_bits v1 s) fun y58 => (if (f_X12_within y58 1 4 s) = 0 then f_X12_rests_j34 v1 v2 s else (if v2 < (-1) then f_X12_rests_j34 v1 v2 s else f_X12_rests_j35 v1 v2 0 s))))
set_option maxRecDepth 20000 in
set_option maxHeartbeats 2000000 in
theorem t_X12_rests (v1 : Int32) (v2 : Int32) (s : HS) {x : Int32} {t : HS} (hf : f_X12_rests  v1 v2 s = some (x, t)) : Mt DDX12_rests miX12_rests [.ref 101, .int v1, .int v2] NF (hp s) (some (.int x)) NF (hp t) := by
  refine Mt.of (by decide +kernel) (Nat.le_refl _) (Nat.le_of_ble_eq_true rfl) ?_
  show Ev DDX12_rests miX12_rests NF (some (.int x)) NF (hp t) 0 NF [(0, .ref 101), (1, .int v1), (2, .int v2)] [] (hp s)
  unfold f_X12_rests at hf
  refine e_aload_n dX12_rests_0 0 rfl rfl (pc2 := 1) rfl ?_
  refine e_iload_n dX12_rests_1 1 rfl rfl (pc2 := 2) rfl ?_
  refine e_if_lt (tgt := 34) dX12_rests_2 (by decide) (pc2 := 5) rfl (fun c1 => ?_) (fun c1 => ?_)
  · have hf := if_t c1 hf
    exact t_X12_rests_j34 v1 v2 s hf
  · have hf := if_f c1 hf
    refine e_iload_n dX12_rests_5 1 rfl rfl (pc2 := 6) rfl ?_
    refine e_aload_n dX12_rests_6 0 rfl rfl (pc2 := 7) rfl ?_
    refine e_callVs (t_X12_allBuyers  s rfl) dX12_rests_7 cv_X12_558 rfl so_101 rc_11 (by decide) (by first | exact Nat.le_of_ble_eq_true rfl | simp [rva_cat, vc_i, vc_r, vc_l, vc_n]) nn0 rfl (pc2 := 10) rfl ?_
    refine e_icmp_gt (tgt := 34) dX12_rests_10 (by decide) (pc2 := 13) rfl (fun c57 => ?_) (fun c57 => ?_)
    · have hf := if_t c57 hf
      exact t_X12_rests_j34 v1 v2 s hf
    · have hf := if_f c57 hf
      refine e_iload_n dX12_rests_13 1 rfl rfl (pc2 := 14) rfl ?_
      obtain ⟨y58, hy58, hf⟩ := bnd_s hf
      refine e_callSs (t_X12_bits v1 s hy58) dX12_rests_14 cs_X12_504 rfl (by decide) (by first | exact Nat.le_of_ble_eq_true rfl | simp [rva_cat, vc_i, vc_r, vc_l, vc_n]) nn0 rfl (pc2 := 17) rfl ?_
      refine e_iconst (x := 1) dX12_rests_17 (by decide) (pc2 := 18) rfl ?_
      refine e_iconst (x := 4) dX12_rests_18 (by decide) (pc2 := 19) rfl ?_
      refine e_callSs (t_X12_within y58 1 4 s rfl) dX12_rests_19 cs_X12_343 rfl (by decide) (by first | exact Nat.le_of_ble_eq_true rfl | simp [rva_cat, vc_i, vc_r, vc_l, vc_n]) nn0 rfl (pc2 := 22) rfl ?_
      refine e_if_eq (tgt := 34) dX12_rests_22 (by decide) (pc2 := 25) rfl (fun c59 => ?_) (fun c59 => ?_)
      · have hf := if_t c59 hf
        exact t_X12_rests_j34 v1 v2 s hf
      · have hf := if_f c59 hf
        refine e_iload_n dX12_rests_25 2 rfl rfl (pc2 := 26) rfl ?_
        refine e_iconst (x := (-1)) dX12_rests_26 (by decide) (pc2 := 27) rfl ?_
        refine e_icmp_lt (tgt := 34) dX12_rests_27 (by decide) (pc2 := 30) rfl (fun c60 => ?_) (fun c60 => ?_)
        · have hf := if_t c60 hf
          exact t_X12_rests_j34 v1 v2 s hf
        · have hf := if_f c60 hf
          refine e_iconst (x := 0) dX12_rests_30 (by decide) (pc2 := 31) rfl ?_
          refine e_goto (tgt := 35) dX12_rests_31 (by decide) ?_
          exact t_X12_rests_j35 v1 v2 0 s hf
