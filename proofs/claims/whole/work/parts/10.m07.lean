abbrev DDX11_was : Nat := 7
def f_X11_was_l19b (v1 : Int32) (v2 : Int32) (v3 : Int32) (v4 : Int32) (k19 : Int32 → Int32 → HS → Option (Int32 × HS)) (k92 : Int32 → HS → Option (Int32 × HS)) (s : HS) : Option (Int32 × HS) :=
  (if (s.1 64 10) ≤ v4 then k92 v3 s else gd (inb (v4 * 2) 12) (ltb ((s.1 68 (v4 * 2).toNatClampNeg) - (60 * v2)) fun x6 => (if v3 = 0 then ltb (v4 + 1) fun x8 => k19 0 x8 s else bnd (f_X6_servedBy x6 s) fun y9 => gd (inb ((v4 * 2) + 1) 12) ((if y9 = (s.1 68 ((v4 * 2) + 1).toNatClampNeg) then ltb (v4 + 1) fun x13 => k19 1 x13 s else ltb (v4 + 1) fun x12 => k19 0 x12 s)))))
set_option maxRecDepth 20000 in
set_option maxHeartbeats 2000000 in
theorem t_X11_was_l19b (v1 : Int32) (v2 : Int32) (v3 : Int32) (v4 : Int32) (s : HS) {x : Int32} {t : HS} (k19 : Int32 → Int32 → HS → Option (Int32 × HS)) (hk19 : ∀ (a3 : Int32) (a4 : Int32) (s : HS), k19 a3 a4 s = some (x, t) → Ev DDX11_was miX11_was NF (some (.int x)) NF (hp t) 19 NF [(0, .ref 1), (1, .int v1), (2, .int v2), (3, .int a3), (4, .int a4)] [] (hp s)) (k92 : Int32 → HS → Option (Int32 × HS)) (hk92 : ∀ (a3 : Int32) (s : HS), k92 a3 s = some (x, t) → Ev DDX11_was miX11_was NF (some (.int x)) NF (hp t) 92 NF [(0, .ref 1), (1, .int v1), (2, .int v2), (3, .int a3)] [] (hp s)) (hf : f_X11_was_l19b v1 v2 v3 v4 k19 k92 s = some (x, t)) : Ev DDX11_was miX11_was NF (some (.int x)) NF (hp t) 19 NF [(0, .ref 1), (1, .int v1), (2, .int v2), (3, .int v3), (4, .int v4)] [] (hp s) := by
  refine e_iload dX11_was_19 4 rfl (pc2 := 21) rfl ?_
  refine e_aload_n dX11_was_21 0 rfl rfl (pc2 := 22) rfl ?_
  refine e_getR (r := 64) fl_X11_64 dX11_was_22 so_1 (rs_1_5 s.2.2) (by decide) (pc2 := 25) rfl ?_
  refine e_getI fl_X11_291 dX11_was_25 (okX7_o (show okX7 64 = true from rfl)) (by decide) (pc2 := 28) rfl ?_
  refine e_icmp_ge (tgt := 92) dX11_was_28 (by decide) (pc2 := 31) rfl (fun c4 => ?_) (fun c4 => ?_)
  · have hf := if_t c4 hf
    refine ev_sub [0, 1, 2, 3] rfl ?_
    exact hk92 v3 s hf
  · have hf := if_f c4 hf
    refine e_aload_n dX11_was_31 0 rfl rfl (pc2 := 32) rfl ?_
    refine e_getR (r := 64) fl_X11_64 dX11_was_32 so_1 (rs_1_5 s.2.2) (by decide) (pc2 := 35) rfl ?_
    refine e_getR (r := 68) fl_X11_294 dX11_was_35 (okX7_o (show okX7 64 = true from rfl)) (rs_64_9 s.2.2) (by decide) (pc2 := 38) rfl ?_
    refine e_iload dX11_was_38 4 rfl (pc2 := 40) rfl ?_
    refine e_iconst (x := 2) dX11_was_40 (by decide) (pc2 := 41) rfl ?_
    refine e_imul dX11_was_41 (pc2 := 42) rfl ?_
    obtain ⟨g5, hf⟩ := gd_some hf
    refine e_iald dX11_was_42 sa_68 (inb_v g5) (pc2 := 43) rfl ?_
    refine e_bipush (x := 60) dX11_was_43 (by decide) (pc2 := 45) rfl ?_
    refine e_iload_n dX11_was_45 2 rfl rfl (pc2 := 46) rfl ?_
    refine e_imul dX11_was_46 (pc2 := 47) rfl ?_
    refine e_isub dX11_was_47 (pc2 := 48) rfl ?_
    obtain ⟨x6, ex6, hf⟩ := ltb_s hf
    refine e_istore dX11_was_48 (by decide) ex6.symm (ls' := [(0, .ref 1), (1, .int v1), (2, .int v2), (3, .int v3), (4, .int v4), (5, .int x6)]) [1, 2, 3, 4, 5, 0] rfl (pc2 := 50) rfl ?_
    refine e_iload_n dX11_was_50 3 rfl rfl (pc2 := 51) rfl ?_
    refine e_if_eq (tgt := 84) dX11_was_51 (by decide) (pc2 := 54) rfl (fun c7 => ?_) (fun c7 => ?_)
    · have hf := if_t c7 hf
      refine e_iconst (x := 0) dX11_was_84 (by decide) (pc2 := 85) rfl ?_
      refine e_istore_n dX11_was_85 rfl (by decide) rfl (ls' := [(0, .ref 1), (1, .int v1), (2, .int v2), (3, .int 0), (4, .int v4)]) [1, 2, 3, 0, 4] rfl (pc2 := 86) rfl ?_
      obtain ⟨x8, ex8, hf⟩ := ltb_s hf
      refine e_iinc dX11_was_86 4 rfl (c9 := 1) (by decide) ex8.symm (by decide) (ls' := [(0, .ref 1), (1, .int v1), (2, .int v2), (3, .int 0), (4, .int x8)]) [1, 2, 3, 4, 0] rfl (pc2 := 89) rfl ?_
      refine e_goto (tgt := 19) dX11_was_89 (by decide) ?_
      exact hk19 0 x8 s hf
    · have hf := if_f c7 hf
      refine e_aload_n dX11_was_54 0 rfl rfl (pc2 := 55) rfl ?_
      refine e_getR (r := 73) fl_X11_72 dX11_was_55 so_1 (rs_1_8 s.2.2) (by decide) (pc2 := 58) rfl ?_
      refine e_iload dX11_was_58 5 rfl (pc2 := 60) rfl ?_
      obtain ⟨y9, hy9, hf⟩ := bnd_s hf
      refine e_callVs (t_X6_servedBy x6 s hy9) dX11_was_60 cv_X11_222 rfl so_73 rc_6 (by decide) (by first | exact Nat.le_of_ble_eq_true rfl | simp [rva_cat, vc_i, vc_r, vc_l, vc_n]) nn0 rfl (pc2 := 63) rfl ?_
      refine e_aload_n dX11_was_63 0 rfl rfl (pc2 := 64) rfl ?_
      refine e_getR (r := 64) fl_X11_64 dX11_was_64 so_1 (rs_1_5 s.2.2) (by decide) (pc2 := 67) rfl ?_
      refine e_getR (r := 68) fl_X11_294 dX11_was_67 (okX7_o (show okX7 64 = true from rfl)) (rs_64_9 s.2.2) (by decide) (pc2 := 70) rfl ?_
      refine e_iload dX11_was_70 4 rfl (pc2 := 72) rfl ?_
      refine e_iconst (x := 2) dX11_was_72 (by decide) (pc2 := 73) rfl ?_
      refine e_imul dX11_was_73 (pc2 := 74) rfl ?_
      refine e_iconst (x := 1) dX11_was_74 (by decide) (pc2 := 75) rfl ?_
      refine e_iadd dX11_was_75 (pc2 := 76) rfl ?_
      obtain ⟨g10, hf⟩ := gd_some hf
      refine e_iald dX11_was_76 sa_68 (inb_v g10) (pc2 := 77) rfl ?_
      refine e_icmp_ne (tgt := 84) dX11_was_77 (by decide) (pc2 := 80) rfl (fun c11 => ?_) (fun c11 => ?_)
      · have hf := if_f c11 hf
        refine e_iconst (x := 0) dX11_was_84 (by decide) (pc2 := 85) rfl ?_
        refine e_istore_n dX11_was_85 rfl (by decide) rfl (ls' := [(0, .ref 1), (1, .int v1), (2, .int v2), (3, .int 0), (4, .int v4)]) [1, 2, 3, 0, 4] rfl (pc2 := 86) rfl ?_
        obtain ⟨x12, ex12, hf⟩ := ltb_s hf
        refine e_iinc dX11_was_86 4 rfl (c9 := 1) (by decide) ex12.symm (by decide) (ls' := [(0, .ref 1), (1, .int v1), (2, .int v2), (3, .int 0), (4, .int x12)]) [1, 2, 3, 4, 0] rfl (pc2 := 89) rfl ?_
        refine e_goto (tgt := 19) dX11_was_89 (by decide) ?_
        exact hk19 0 x12 s hf
      · have hf := if_t c11 hf
        refine e_iconst (x := 1) dX11_was_80 (by decide) (pc2 := 81) rfl ?_
        refine e_goto (tgt := 85) dX11_was_81 (by decide) ?_
        refine e_istore_n dX11_was_85 rfl (by decide) rfl (ls' := [(0, .ref 1), (1, .int v1), (2, .int v2), (3, .int 1), (4, .int v4)]) [1, 2, 3, 0, 4] rfl (pc2 := 86) rfl ?_
        obtain ⟨x13, ex13, hf⟩ := ltb_s hf
        refine e_iinc dX11_was_86 4 rfl (c9 := 1) (by decide) ex13.symm (by decide) (ls' := [(0, .ref 1), (1, .int v1), (2, .int v2), (3, .int 1), (4, .int x13)]) [1, 2, 3, 4, 0] rfl (pc2 := 89) rfl ?_
        refine e_goto (tgt := 19) dX11_was_89 (by decide) ?_
        exact hk19 1 x13 s hf
def f_X11_was_l19 (v1 : Int32) (v2 : Int32) (k92 : Int32 → HS → Option (Int32 × HS)) : Nat → Int32 → Int32 → HS → Option (Int32 × HS)
  | 0, _, _, _ => none
  | n + 1, v3, v4, s => f_X11_was_l19b v1 v2 v3 v4 (f_X11_was_l19 v1 v2 k92 n) k92 s
set_option maxRecDepth 20000 in
set_option maxHeartbeats 2000000 in
theorem t_X11_was_l19 (v1 : Int32) (v2 : Int32) {x : Int32} {t : HS} (k92 : Int32 → HS → Option (Int32 × HS)) (hk92 : ∀ (a3 : Int32) (s : HS), k92 a3 s = some (x, t) → Ev DDX11_was miX11_was NF (some (.int x)) NF (hp t) 92 NF [(0, .ref 1), (1, .int v1), (2, .int v2), (3, .int a3)] [] (hp s)) : ∀ (n : Nat) (v3 : Int32) (v4 : Int32) (s : HS), f_X11_was_l19 v1 v2 k92 n v3 v4 s = some (x, t) → Ev DDX11_was miX11_was NF (some (.int x)) NF (hp t) 19 NF [(0, .ref 1), (1, .int v1), (2, .int v2), (3, .int v3), (4, .int v4)] [] (hp s) := by
  intro n
  induction n with
  | zero =>
    intro v3 v4 s hf
    have hf : none = some (x, t) := hf
    cases hf
  | succ n ih =>
    intro v3 v4 s hf
    exact t_X11_was_l19b v1 v2 v3 v4  s _ ih _ hk92 hf
def f_X11_was_l8b (v1 : Int32) (v2 : Int32) (k8 : Int32 → Int32 → HS → Option (Int32 × HS)) (s : HS) : Option (Int32 × HS) :=
  (if 9 < v2 then some (v1, s) else f_X11_was_l19 v1 v2 (fun v14 s15 => (if v14 = 0 then ltb (v2 + 1) fun x17 => k8 v1 x17 s15 else ltb (v1 ||| ((1 : Int32) <<< (v2 &&& 31))) fun x18 => ltb (v2 + 1) fun x19 => k8 x18 x19 s15)) FU 1 0 s)
set_option maxRecDepth 20000 in
set_option maxHeartbeats 2000000 in
theorem t_X11_was_l8b (v1 : Int32) (v2 : Int32) (s : HS) {x : Int32} {t : HS} (k8 : Int32 → Int32 → HS → Option (Int32 × HS)) (hk8 : ∀ (a1 : Int32) (a2 : Int32) (s : HS), k8 a1 a2 s = some (x, t) → Ev DDX11_was miX11_was NF (some (.int x)) NF (hp t) 8 NF [(0, .ref 1), (1, .int a1), (2, .int a2)] [] (hp s)) (hf : f_X11_was_l8b v1 v2 k8 s = some (x, t)) : Ev DDX11_was miX11_was NF (some (.int x)) NF (hp t) 8 NF [(0, .ref 1), (1, .int v1), (2, .int v2)] [] (hp s) := by
  refine e_iload_n dX11_was_8 2 rfl rfl (pc2 := 9) rfl ?_
  refine e_bipush (x := 9) dX11_was_9 (by decide) (pc2 := 11) rfl ?_
  refine e_icmp_gt (tgt := 108) dX11_was_11 (by decide) (pc2 := 14) rfl (fun c3 => ?_) (fun c3 => ?_)
  · have hf := if_t c3 hf
    refine e_iload_n dX11_was_108 1 rfl rfl (pc2 := 109) rfl ?_
    cases hf
    exact e_iret rfl dX11_was_109
  · have hf := if_f c3 hf
    refine e_iconst (x := 1) dX11_was_14 (by decide) (pc2 := 15) rfl ?_
    refine e_istore_n dX11_was_15 rfl (by decide) rfl (ls' := [(0, .ref 1), (1, .int v1), (2, .int v2), (3, .int 1)]) [1, 2, 3, 0] rfl (pc2 := 16) rfl ?_
    refine e_iconst (x := 0) dX11_was_16 (by decide) (pc2 := 17) rfl ?_
    refine e_istore dX11_was_17 (by decide) rfl (ls' := [(0, .ref 1), (1, .int v1), (2, .int v2), (3, .int 1), (4, .int 0)]) [1, 2, 3, 4, 0] rfl (pc2 := 19) rfl ?_
    refine t_X11_was_l19 v1 v2 _ ?_ FU 1 0 s hf
    · intro v14 s15 hf
      refine e_iload_n dX11_was_92 3 rfl rfl (pc2 := 93) rfl ?_
      refine e_if_eq (tgt := 102) dX11_was_93 (by decide) (pc2 := 96) rfl (fun c16 => ?_) (fun c16 => ?_)
      · have hf := if_t c16 hf
        obtain ⟨x17, ex17, hf⟩ := ltb_s hf
        refine e_iinc dX11_was_102 2 rfl (c9 := 1) (by decide) ex17.symm (by decide) (ls' := [(0, .ref 1), (1, .int v1), (2, .int x17)]) [1, 2, 0] rfl (pc2 := 105) rfl ?_
        refine e_goto (tgt := 8) dX11_was_105 (by decide) ?_
        exact hk8 v1 x17 s15 hf
      · have hf := if_f c16 hf
        refine e_iload_n dX11_was_96 1 rfl rfl (pc2 := 97) rfl ?_
        refine e_iconst (x := 1) dX11_was_97 (by decide) (pc2 := 98) rfl ?_
        refine e_iload_n dX11_was_98 2 rfl rfl (pc2 := 99) rfl ?_
        refine e_ishl dX11_was_99 (pc2 := 100) rfl ?_
        refine e_ior dX11_was_100 (pc2 := 101) rfl ?_
        obtain ⟨x18, ex18, hf⟩ := ltb_s hf
        refine e_istore_n dX11_was_101 rfl (by decide) ex18.symm (ls' := [(0, .ref 1), (1, .int x18), (2, .int v2)]) [1, 0, 2] rfl (pc2 := 102) rfl ?_
        obtain ⟨x19, ex19, hf⟩ := ltb_s hf
        refine e_iinc dX11_was_102 2 rfl (c9 := 1) (by decide) ex19.symm (by decide) (ls' := [(0, .ref 1), (1, .int x18), (2, .int x19)]) [1, 2, 0] rfl (pc2 := 105) rfl ?_
        refine e_goto (tgt := 8) dX11_was_105 (by decide) ?_
        exact hk8 x18 x19 s15 hf
def f_X11_was_l8  : Nat → Int32 → Int32 → HS → Option (Int32 × HS)
  | 0, _, _, _ => none
  | n + 1, v1, v2, s => f_X11_was_l8b v1 v2 (f_X11_was_l8  n)  s
set_option maxRecDepth 20000 in
set_option maxHeartbeats 2000000 in
theorem t_X11_was_l8  {x : Int32} {t : HS}  : ∀ (n : Nat) (v1 : Int32) (v2 : Int32) (s : HS), f_X11_was_l8  n v1 v2 s = some (x, t) → Ev DDX11_was miX11_was NF (some (.int x)) NF (hp t) 8 NF [(0, .ref 1), (1, .int v1), (2, .int v2)] [] (hp s) := by
  intro n
  induction n with
  | zero =>
    intro v1 v2 s hf
    have hf : none = some (x, t) := hf
    cases hf
  | succ n ih =>
    intro v1 v2 s hf
    exact t_X11_was_l8b v1 v2  s _ ih  hf
def f_X11_was  (s : HS) : Option (Int32 × HS) :=
  bnd (f_X11_playNow s) fun s2 => f_X11_was_l8 FU 0 0 s2
set_option maxRecDepth 20000 in
set_option maxHeartbeats 2000000 in
theorem t_X11_was  (s : HS) {x : Int32} {t : HS} (hf : f_X11_was s = some (x, t)) : Mt DDX11_was miX11_was [.ref 1] NF (hp s) (some (.int x)) NF (hp t) := by
  refine Mt.of (by decide +kernel) (Nat.le_refl _) (Nat.le_of_ble_eq_true rfl) ?_
  show Ev DDX11_was miX11_was NF (some (.int x)) NF (hp t) 0 NF [(0, .ref 1)] [] (hp s)
  unfold f_X11_was at hf
  refine e_aload_n dX11_was_0 0 rfl rfl (pc2 := 1) rfl ?_
  obtain ⟨s2, hy1, hf⟩ := bnd_s hf
  refine e_callVn (t_X11_playNow  s hy1) dX11_was_1 cv_X11_194 rfl so_1 rc_10 (by decide) (by first | exact Nat.le_of_ble_eq_true rfl | simp [rva_cat, vc_i, vc_r, vc_l, vc_n]) nn0 rfl (pc2 := 4) rfl ?_
  refine e_iconst (x := 0) dX11_was_4 (by decide) (pc2 := 5) rfl ?_
  refine e_istore_n dX11_was_5 rfl (by decide) rfl (ls' := [(0, .ref 1), (1, .int 0)]) [1, 0] rfl (pc2 := 6) rfl ?_
  refine e_iconst (x := 0) dX11_was_6 (by decide) (pc2 := 7) rfl ?_
  refine e_istore_n dX11_was_7 rfl (by decide) rfl (ls' := [(0, .ref 1), (1, .int 0), (2, .int 0)]) [1, 2, 0] rfl (pc2 := 8) rfl ?_
  refine t_X11_was_l8 FU 0 0 s2 hf
abbrev DDX11_years : Nat := 7
def f_X11_years_l71b (v2 : Int32) (v3 : Int32) (v4 : Int64) (v6 : Int32) (v7 : Int32) (v8 : Int32) (k71 : Int64 → Int32 → HS → Option (Int32 × HS)) (k149 : Int64 → HS → Option (Int32 × HS)) (s : HS) : Option (Int32 × HS) :=
  gd (okX4 (s.2.2.1)) ((if (s.1 (s.2.2.1) 14) ≤ v8 then k149 v4 s else ltb (((v4 * 1103515245) + 12345) - ((v4 * 1103515245) + 12345) / 2147483648 * 2147483648) fun x14 => gd (okX4 (s.2.2.1)) (gd (inb v8 6) ((if 0 ≤ (lg_cmp ((x14 / 65536) - (x14 / 65536) / 10 * 10) ((s.1 (Rf (Rf (s.2.2.1) 15) v8.toNatClampNeg) 3 : Int32).toInt64)) then ltb (v8 + 1) fun x18 => k71 x14 x18 s else ltb (sI s 28 0 ((s.1 28 0) ||| ((1 : Int32) <<< (v8 &&& 31)))) fun s19 => ltb (v8 + 1) fun x20 => k71 x14 x20 s19)))))
set_option maxRecDepth 20000 in
set_option maxHeartbeats 2000000 in
theorem t_X11_years_l71b (v2 : Int32) (v3 : Int32) (v4 : Int64) (v6 : Int32) (v7 : Int32) (v8 : Int32) (s : HS) {x : Int32} {t : HS} (k71 : Int64 → Int32 → HS → Option (Int32 × HS)) (hk71 : ∀ (a4 : Int64) (a8 : Int32) (s : HS), k71 a4 a8 s = some (x, t) → Ev DDX11_years miX11_years NF (some (.int x)) NF (hp t) 71 NF [(0, .ref 1), (2, .int v2), (3, .int v3), (4, .long a4), (6, .int v6), (7, .int v7), (8, .int a8)] [] (hp s)) (k149 : Int64 → HS → Option (Int32 × HS)) (hk149 : ∀ (a4 : Int64) (s : HS), k149 a4 s = some (x, t) → Ev DDX11_years miX11_years NF (some (.int x)) NF (hp t) 149 NF [(0, .ref 1), (2, .int v2), (3, .int v3), (4, .long a4), (6, .int v6), (7, .int v7)] [] (hp s)) (hf : f_X11_years_l71b v2 v3 v4 v6 v7 v8 k71 k149 s = some (x, t)) : Ev DDX11_years miX11_years NF (some (.int x)) NF (hp t) 71 NF [(0, .ref 1), (2, .int v2), (3, .int v3), (4, .long v4), (6, .int v6), (7, .int v7), (8, .int v8)] [] (hp s) := by
  refine e_iload dX11_years_71 6 rfl (pc2 := 73) rfl ?_
  refine e_aload_n dX11_years_73 0 rfl rfl (pc2 := 74) rfl ?_
  obtain ⟨g12, hf⟩ := gd_some hf
  refine e_getR (r := s.2.2.1) fl_X11_61 dX11_years_74 so_1 rfl (okX4_ne g12) (pc2 := 77) rfl ?_
  refine e_getI fl_X11_229 dX11_years_77 (okX4_o g12) (by decide) (pc2 := 80) rfl ?_
  refine e_icmp_ge (tgt := 149) dX11_years_80 (by decide) (pc2 := 83) rfl (fun c13 => ?_) (fun c13 => ?_)
  · have hf := if_t c13 hf
    refine ev_sub [0, 1, 2, 3, 4, 5] rfl ?_
    exact hk149 v4 s hf
  · have hf := if_f c13 hf
    refine e_lload dX11_years_83 3 rfl (pc2 := 85) rfl ?_
    refine e_ldc2 dX11_years_85 lk_X11_297 (pc2 := 88) rfl ?_
    refine e_lmul dX11_years_88 (pc2 := 89) rfl ?_
    refine e_ldc2 dX11_years_89 lk_X11_299 (pc2 := 92) rfl ?_
    refine e_ladd dX11_years_92 (pc2 := 93) rfl ?_
    refine e_ldc2 dX11_years_93 lk_X11_301 (pc2 := 96) rfl ?_
    refine e_lrem dX11_years_96 (by decide) (pc2 := 97) rfl ?_
    obtain ⟨x14, ex14, hf⟩ := ltb_s hf
    refine e_lstore dX11_years_97 (by decide) ex14.symm (ls' := [(0, .ref 1), (2, .int v2), (3, .int v3), (4, .long x14), (6, .int v6), (7, .int v7), (8, .int v8)]) [1, 2, 3, 0, 4, 5, 6] rfl (pc2 := 99) rfl ?_
    refine e_lload dX11_years_99 3 rfl (pc2 := 101) rfl ?_
    refine e_ldc2 dX11_years_101 lk_X11_303 (pc2 := 104) rfl ?_
    refine e_ldiv dX11_years_104 (by decide) (pc2 := 105) rfl ?_
    refine e_ldc2 dX11_years_105 lk_X11_305 (pc2 := 108) rfl ?_
    refine e_lrem dX11_years_108 (by decide) (pc2 := 109) rfl ?_
    refine e_aload_n dX11_years_109 0 rfl rfl (pc2 := 110) rfl ?_
    obtain ⟨g15, hf⟩ := gd_some hf
    refine e_getR (r := s.2.2.1) fl_X11_61 dX11_years_110 so_1 rfl (okX4_ne g15) (pc2 := 113) rfl ?_
    refine e_getR (r := Rf (s.2.2.1) 15) fl_X11_137 dX11_years_113 (okX4_o g15) (okX4_R g15) (isA_ne (okX4_buyer g15)) (pc2 := 116) rfl ?_
    refine e_iload dX11_years_116 6 rfl (pc2 := 118) rfl ?_
    obtain ⟨g16, hf⟩ := gd_some hf
    refine e_aald (r := Rf (Rf (s.2.2.1) 15) v8.toNatClampNeg) dX11_years_118 (okX4_buyer g15) (by decide) (inb_v g16) (Rs_na (q := s.2.2) (okX4_buyer g15) (by decide)) (okX0_ne (okX4_buyer_el g15 (inb_v g16))) (pc2 := 119) rfl ?_
    refine e_getI fl_X11_149 dX11_years_119 (okX0_o (okX4_buyer_el g15 (inb_v g16))) (by decide) (pc2 := 122) rfl ?_
    refine e_i2l dX11_years_122 (pc2 := 123) rfl ?_
    refine e_lcmp dX11_years_123 (pc2 := 124) rfl ?_
    refine e_if_ge (tgt := 143) dX11_years_124 (by decide) (pc2 := 127) rfl (fun c17 => ?_) (fun c17 => ?_)
    · have hf := if_t c17 hf
      obtain ⟨x18, ex18, hf⟩ := ltb_s hf
      refine e_iinc dX11_years_143 6 rfl (c9 := 1) (by decide) ex18.symm (by decide) (ls' := [(0, .ref 1), (2, .int v2), (3, .int v3), (4, .long x14), (6, .int v6), (7, .int v7), (8, .int x18)]) [1, 2, 3, 4, 5, 6, 0] rfl (pc2 := 146) rfl ?_
      refine e_goto (tgt := 71) dX11_years_146 (by decide) ?_
      exact hk71 x14 x18 s hf
    · have hf := if_f c17 hf
      refine e_aload_n dX11_years_127 0 rfl rfl (pc2 := 128) rfl ?_
      refine e_getR (r := 28) fl_X11_19 dX11_years_128 so_1 (rs_1_6 s.2.2) (by decide) (pc2 := 131) rfl ?_
      refine e_dup dX11_years_131 rfl (pc2 := 132) rfl ?_
      refine e_getI fl_X11_158 dX11_years_132 (okX7_o (show okX7 28 = true from rfl)) (by decide) (pc2 := 135) rfl ?_
      refine e_iconst (x := 1) dX11_years_135 (by decide) (pc2 := 136) rfl ?_
      refine e_iload dX11_years_136 6 rfl (pc2 := 138) rfl ?_
      refine e_ishl dX11_years_138 (pc2 := 139) rfl ?_
      refine e_ior dX11_years_139 (pc2 := 140) rfl ?_
      obtain ⟨s19, es19, hf⟩ := ltb_s hf
      refine e_putI fl_X11_158 dX11_years_140 (okX7_o (show okX7 28 = true from rfl)) fn_7_0 (h2 := hp s19) (by rw [es19]; rfl) (pc2 := 143) rfl ?_
      obtain ⟨x20, ex20, hf⟩ := ltb_s hf
      refine e_iinc dX11_years_143 6 rfl (c9 := 1) (by decide) ex20.symm (by decide) (ls' := [(0, .ref 1), (2, .int v2), (3, .int v3), (4, .long x14), (6, .int v6), (7, .int v7), (8, .int x20)]) [1, 2, 3, 4, 5, 6, 0] rfl (pc2 := 146) rfl ?_
      refine e_goto (tgt := 71) dX11_years_146 (by decide) ?_
      exact hk71 x14 x20 s19 hf
def f_X11_years_l71 (v2 : Int32) (v3 : Int32) (v6 : Int32) (v7 : Int32) (k149 : Int64 → HS → Option (Int32 × HS)) : Nat → Int64 → Int32 → HS → Option (Int32 × HS)
  | 0, _, _, _ => none
  | n + 1, v4, v8, s => f_X11_years_l71b v2 v3 v4 v6 v7 v8 (f_X11_years_l71 v2 v3 v6 v7 k149 n) k149 s
set_option maxRecDepth 20000 in
set_option maxHeartbeats 2000000 in
theorem t_X11_years_l71 (v2 : Int32) (v3 : Int32) (v6 : Int32) (v7 : Int32) {x : Int32} {t : HS} (k149 : Int64 → HS → Option (Int32 × HS)) (hk149 : ∀ (a4 : Int64) (s : HS), k149 a4 s = some (x, t) → Ev DDX11_years miX11_years NF (some (.int x)) NF (hp t) 149 NF [(0, .ref 1), (2, .int v2), (3, .int v3), (4, .long a4), (6, .int v6), (7, .int v7)] [] (hp s)) : ∀ (n : Nat) (v4 : Int64) (v8 : Int32) (s : HS), f_X11_years_l71 v2 v3 v6 v7 k149 n v4 v8 s = some (x, t) → Ev DDX11_years miX11_years NF (some (.int x)) NF (hp t) 71 NF [(0, .ref 1), (2, .int v2), (3, .int v3), (4, .long v4), (6, .int v6), (7, .int v7), (8, .int v8)] [] (hp s) := by
  intro n
  induction n with
  | zero =>
    intro v4 v8 s hf
    have hf : none = some (x, t) := hf
    cases hf
  | succ n ih =>
    intro v4 v8 s hf
    exact t_X11_years_l71b v2 v3 v4 v6 v7 v8  s _ ih _ hk149 hf
def f_X11_years_l54b (v2 : Int32) (v3 : Int32) (v4 : Int64) (v6 : Int32) (v7 : Int32) (k54 : Int64 → Int32 → Int32 → HS → Option (Int32 × HS)) (s : HS) : Option (Int32 × HS) :=
  (if v2 ≤ v7 then some (v6, s) else ltb (sI s 28 0 0) fun s11 => f_X11_years_l71 v2 v3 v6 v7 (fun v21 s22 => bnd (f_X11_playTrial s22) fun s24 => (if v3 = 0 then bnd (f_X6_paid s24) fun y32 => ltb (v6 + y32) fun x33 => ltb (v7 + 1) fun x34 => k54 v21 x33 x34 s24 else (if v3 = 1 then bnd (f_X6_drunkInAll s24) fun y29 => ltb (v6 + y29) fun x30 => ltb (v7 + 1) fun x31 => k54 v21 x30 x31 s24 else ltb (v6 + (f_J6_bitCount_0f7a4 (s24.1 73 15) s24)) fun x27 => ltb (v7 + 1) fun x28 => k54 v21 x27 x28 s24))) FU v4 0 s11)
set_option maxRecDepth 20000 in
set_option maxHeartbeats 2000000 in
theorem t_X11_years_l54b (v2 : Int32) (v3 : Int32) (v4 : Int64) (v6 : Int32) (v7 : Int32) (s : HS) {x : Int32} {t : HS} (k54 : Int64 → Int32 → Int32 → HS → Option (Int32 × HS)) (hk54 : ∀ (a4 : Int64) (a6 : Int32) (a7 : Int32) (s : HS), k54 a4 a6 a7 s = some (x, t) → Ev DDX11_years miX11_years NF (some (.int x)) NF (hp t) 54 NF [(0, .ref 1), (2, .int v2), (3, .int v3), (4, .long a4), (6, .int a6), (7, .int a7)] [] (hp s)) (hf : f_X11_years_l54b v2 v3 v4 v6 v7 k54 s = some (x, t)) : Ev DDX11_years miX11_years NF (some (.int x)) NF (hp t) 54 NF [(0, .ref 1), (2, .int v2), (3, .int v3), (4, .long v4), (6, .int v6), (7, .int v7)] [] (hp s) := by
  refine e_iload dX11_years_54 5 rfl (pc2 := 56) rfl ?_
  refine e_iload_n dX11_years_56 1 rfl rfl (pc2 := 57) rfl ?_
  refine e_icmp_ge (tgt := 203) dX11_years_57 (by decide) (pc2 := 60) rfl (fun c10 => ?_) (fun c10 => ?_)
  · have hf := if_t c10 hf
    refine e_iload dX11_years_203 4 rfl (pc2 := 205) rfl ?_
    cases hf
    exact e_iret rfl dX11_years_205
  · have hf := if_f c10 hf
    refine e_aload_n dX11_years_60 0 rfl rfl (pc2 := 61) rfl ?_
    refine e_getR (r := 28) fl_X11_19 dX11_years_61 so_1 (rs_1_6 s.2.2) (by decide) (pc2 := 64) rfl ?_
    refine e_iconst (x := 0) dX11_years_64 (by decide) (pc2 := 65) rfl ?_
    obtain ⟨s11, es11, hf⟩ := ltb_s hf
    refine e_putI fl_X11_158 dX11_years_65 (okX7_o (show okX7 28 = true from rfl)) fn_7_0 (h2 := hp s11) (by rw [es11]; rfl) (pc2 := 68) rfl ?_
    refine e_iconst (x := 0) dX11_years_68 (by decide) (pc2 := 69) rfl ?_
    refine e_istore dX11_years_69 (by decide) rfl (ls' := [(0, .ref 1), (2, .int v2), (3, .int v3), (4, .long v4), (6, .int v6), (7, .int v7), (8, .int 0)]) [1, 2, 3, 4, 5, 6, 0] rfl (pc2 := 71) rfl ?_
    refine t_X11_years_l71 v2 v3 v6 v7 _ ?_ FU v4 0 s11 hf
    · intro v21 s22 hf
      refine e_aload_n dX11_years_149 0 rfl rfl (pc2 := 150) rfl ?_
      obtain ⟨s24, hy23, hf⟩ := bnd_s hf
      refine e_callVn (t_X11_playTrial  s22 hy23) dX11_years_150 cv_X11_184 rfl so_1 rc_10 (by decide) (by first | exact Nat.le_of_ble_eq_true rfl | simp [rva_cat, vc_i, vc_r, vc_l, vc_n]) nn0 rfl (pc2 := 153) rfl ?_
      refine e_iload dX11_years_153 4 rfl (pc2 := 155) rfl ?_
      refine e_iload_n dX11_years_155 2 rfl rfl (pc2 := 156) rfl ?_
      refine e_if_ne (tgt := 169) dX11_years_156 (by decide) (pc2 := 159) rfl (fun c25 => ?_) (fun c25 => ?_)
      · have hf := if_f c25 hf
        refine e_iload_n dX11_years_169 2 rfl rfl (pc2 := 170) rfl ?_
        refine e_iconst (x := 1) dX11_years_170 (by decide) (pc2 := 171) rfl ?_
        refine e_icmp_ne (tgt := 184) dX11_years_171 (by decide) (pc2 := 174) rfl (fun c26 => ?_) (fun c26 => ?_)
        · have hf := if_f c26 hf
          refine e_aload_n dX11_years_184 0 rfl rfl (pc2 := 185) rfl ?_
          refine e_getR (r := 73) fl_X11_72 dX11_years_185 so_1 (rs_1_8 s24.2.2) (by decide) (pc2 := 188) rfl ?_
          refine e_getI fl_X11_209 dX11_years_188 so_73 (by decide) (pc2 := 191) rfl ?_
          refine e_callSs (t_J6_bitCount_0f7a4 (s24.1 73 15) s24 rfl) dX11_years_191 cs_X11_215 rfl (by decide) (by first | exact Nat.le_of_ble_eq_true rfl | simp [rva_cat, vc_i, vc_r, vc_l, vc_n]) nn0 rfl (pc2 := 194) rfl ?_
          refine e_iadd dX11_years_194 (pc2 := 195) rfl ?_
          obtain ⟨x27, ex27, hf⟩ := ltb_s hf
          refine e_istore dX11_years_195 (by decide) ex27.symm (ls' := [(0, .ref 1), (2, .int v2), (3, .int v3), (4, .long v21), (6, .int x27), (7, .int v7)]) [1, 2, 3, 4, 0, 5] rfl (pc2 := 197) rfl ?_
          obtain ⟨x28, ex28, hf⟩ := ltb_s hf
          refine e_iinc dX11_years_197 5 rfl (c9 := 1) (by decide) ex28.symm (by decide) (ls' := [(0, .ref 1), (2, .int v2), (3, .int v3), (4, .long v21), (6, .int x27), (7, .int x28)]) [1, 2, 3, 4, 5, 0] rfl (pc2 := 200) rfl ?_
          refine e_goto (tgt := 54) dX11_years_200 (by decide) ?_
          exact hk54 v21 x27 x28 s24 hf
        · have hf := if_t c26 hf
          refine e_aload_n dX11_years_174 0 rfl rfl (pc2 := 175) rfl ?_
          refine e_getR (r := 73) fl_X11_72 dX11_years_175 so_1 (rs_1_8 s24.2.2) (by decide) (pc2 := 178) rfl ?_
          obtain ⟨y29, hy29, hf⟩ := bnd_s hf
          refine e_callVs (t_X6_drunkInAll  s24 hy29) dX11_years_178 cv_X11_191 rfl so_73 rc_6 (by decide) (by first | exact Nat.le_of_ble_eq_true rfl | simp [rva_cat, vc_i, vc_r, vc_l, vc_n]) nn0 rfl (pc2 := 181) rfl ?_
          refine e_goto (tgt := 194) dX11_years_181 (by decide) ?_
          refine e_iadd dX11_years_194 (pc2 := 195) rfl ?_
          obtain ⟨x30, ex30, hf⟩ := ltb_s hf
          refine e_istore dX11_years_195 (by decide) ex30.symm (ls' := [(0, .ref 1), (2, .int v2), (3, .int v3), (4, .long v21), (6, .int x30), (7, .int v7)]) [1, 2, 3, 4, 0, 5] rfl (pc2 := 197) rfl ?_
          obtain ⟨x31, ex31, hf⟩ := ltb_s hf
          refine e_iinc dX11_years_197 5 rfl (c9 := 1) (by decide) ex31.symm (by decide) (ls' := [(0, .ref 1), (2, .int v2), (3, .int v3), (4, .long v21), (6, .int x30), (7, .int x31)]) [1, 2, 3, 4, 5, 0] rfl (pc2 := 200) rfl ?_
          refine e_goto (tgt := 54) dX11_years_200 (by decide) ?_
          exact hk54 v21 x30 x31 s24 hf
      · have hf := if_t c25 hf
        refine e_aload_n dX11_years_159 0 rfl rfl (pc2 := 160) rfl ?_
        refine e_getR (r := 73) fl_X11_72 dX11_years_160 so_1 (rs_1_8 s24.2.2) (by decide) (pc2 := 163) rfl ?_
        obtain ⟨y32, hy32, hf⟩ := bnd_s hf
        refine e_callVs (t_X6_paid  s24 hy32) dX11_years_163 cv_X11_187 rfl so_73 rc_6 (by decide) (by first | exact Nat.le_of_ble_eq_true rfl | simp [rva_cat, vc_i, vc_r, vc_l, vc_n]) nn0 rfl (pc2 := 166) rfl ?_
        refine e_goto (tgt := 194) dX11_years_166 (by decide) ?_
        refine e_iadd dX11_years_194 (pc2 := 195) rfl ?_
        obtain ⟨x33, ex33, hf⟩ := ltb_s hf
        refine e_istore dX11_years_195 (by decide) ex33.symm (ls' := [(0, .ref 1), (2, .int v2), (3, .int v3), (4, .long v21), (6, .int x33), (7, .int v7)]) [1, 2, 3, 4, 0, 5] rfl (pc2 := 197) rfl ?_
        obtain ⟨x34, ex34, hf⟩ := ltb_s hf
        refine e_iinc dX11_years_197 5 rfl (c9 := 1) (by decide) ex34.symm (by decide) (ls' := [(0, .ref 1), (2, .int v2), (3, .int v3), (4, .long v21), (6, .int x33), (7, .int x34)]) [1, 2, 3, 4, 5, 0] rfl (pc2 := 200) rfl ?_
        refine e_goto (tgt := 54) dX11_years_200 (by decide) ?_
        exact hk54 v21 x33 x34 s24 hf
def f_X11_years_l54 (v2 : Int32) (v3 : Int32) : Nat → Int64 → Int32 → Int32 → HS → Option (Int32 × HS)
  | 0, _, _, _, _ => none
  | n + 1, v4, v6, v7, s => f_X11_years_l54b v2 v3 v4 v6 v7 (f_X11_years_l54 v2 v3 n)  s
set_option maxRecDepth 20000 in
set_option maxHeartbeats 2000000 in
theorem t_X11_years_l54 (v2 : Int32) (v3 : Int32) {x : Int32} {t : HS}  : ∀ (n : Nat) (v4 : Int64) (v6 : Int32) (v7 : Int32) (s : HS), f_X11_years_l54 v2 v3 n v4 v6 v7 s = some (x, t) → Ev DDX11_years miX11_years NF (some (.int x)) NF (hp t) 54 NF [(0, .ref 1), (2, .int v2), (3, .int v3), (4, .long v4), (6, .int v6), (7, .int v7)] [] (hp s) := by
  intro n
  induction n with
  | zero =>
    intro v4 v6 v7 s hf
    have hf : none = some (x, t) := hf
    cases hf
  | succ n ih =>
    intro v4 v6 v7 s hf
    exact t_X11_years_l54b v2 v3 v4 v6 v7  s _ ih  hf
def f_X11_years (v1 : Int32) (v2 : Int32) (v3 : Int32) (s : HS) : Option (Int32 × HS) :=
  (if v1 < 0 then some ((-1), s) else (if 9999 < v1 then some ((-1), s) else (if v2 < 1 then some ((-1), s) else (if 60 < v2 then some ((-1), s) else (if v3 < 0 then some ((-1), s) else (if v3 ≤ 2 then bnd (f_X7_copyHand 28 64 s) fun s8 => ltb ((v1 : Int32).toInt64) fun x9 => f_X11_years_l54 v2 v3 FU x9 0 0 s8 else some ((-1), s)))))))
set_option maxRecDepth 20000 in
set_option maxHeartbeats 2000000 in
theorem t_X11_years (v1 : Int32) (v2 : Int32) (v3 : Int32) (s : HS) {x : Int32} {t : HS} (hf : f_X11_years v1 v2 v3 s = some (x, t)) : Mt DDX11_years miX11_years [.ref 1, .int v1, .int v2, .int v3] NF (hp s) (some (.int x)) NF (hp t) := by
  refine Mt.of (by decide +kernel) (Nat.le_refl _) (Nat.le_of_ble_eq_true rfl) ?_
  show Ev DDX11_years miX11_years NF (some (.int x)) NF (hp t) 0 NF [(0, .ref 1), (1, .int v1), (2, .int v2), (3, .int v3)] [] (hp s)
  unfold f_X11_years at hf
  refine e_iload_n dX11_years_0 1 rfl rfl (pc2 := 1) rfl ?_
  refine e_if_lt (tgt := 31) dX11_years_1 (by decide) (pc2 := 4) rfl (fun c1 => ?_) (fun c1 => ?_)
  · have hf := if_t c1 hf
    refine e_iconst (x := (-1)) dX11_years_31 (by decide) (pc2 := 32) rfl ?_
    cases hf
    exact e_iret rfl dX11_years_32
  · have hf := if_f c1 hf
    refine e_iload_n dX11_years_4 1 rfl rfl (pc2 := 5) rfl ?_
    refine e_sipush (x := 9999) dX11_years_5 (by decide) (pc2 := 8) rfl ?_
    refine e_icmp_gt (tgt := 31) dX11_years_8 (by decide) (pc2 := 11) rfl (fun c2 => ?_) (fun c2 => ?_)
    · have hf := if_t c2 hf
      refine e_iconst (x := (-1)) dX11_years_31 (by decide) (pc2 := 32) rfl ?_
      cases hf
      exact e_iret rfl dX11_years_32
    · have hf := if_f c2 hf
      refine e_iload_n dX11_years_11 2 rfl rfl (pc2 := 12) rfl ?_
      refine e_iconst (x := 1) dX11_years_12 (by decide) (pc2 := 13) rfl ?_
      refine e_icmp_lt (tgt := 31) dX11_years_13 (by decide) (pc2 := 16) rfl (fun c3 => ?_) (fun c3 => ?_)
      · have hf := if_t c3 hf
        refine e_iconst (x := (-1)) dX11_years_31 (by decide) (pc2 := 32) rfl ?_
        cases hf
        exact e_iret rfl dX11_years_32
      · have hf := if_f c3 hf
        refine e_iload_n dX11_years_16 2 rfl rfl (pc2 := 17) rfl ?_
        refine e_bipush (x := 60) dX11_years_17 (by decide) (pc2 := 19) rfl ?_
        refine e_icmp_gt (tgt := 31) dX11_years_19 (by decide) (pc2 := 22) rfl (fun c4 => ?_) (fun c4 => ?_)
        · have hf := if_t c4 hf
          refine e_iconst (x := (-1)) dX11_years_31 (by decide) (pc2 := 32) rfl ?_
          cases hf
          exact e_iret rfl dX11_years_32
        · have hf := if_f c4 hf
          refine e_iload_n dX11_years_22 3 rfl rfl (pc2 := 23) rfl ?_
          refine e_if_lt (tgt := 31) dX11_years_23 (by decide) (pc2 := 26) rfl (fun c5 => ?_) (fun c5 => ?_)
          · have hf := if_t c5 hf
            refine e_iconst (x := (-1)) dX11_years_31 (by decide) (pc2 := 32) rfl ?_
            cases hf
            exact e_iret rfl dX11_years_32
          · have hf := if_f c5 hf
            refine e_iload_n dX11_years_26 3 rfl rfl (pc2 := 27) rfl ?_
            refine e_iconst (x := 2) dX11_years_27 (by decide) (pc2 := 28) rfl ?_
            refine e_icmp_le (tgt := 33) dX11_years_28 (by decide) (pc2 := 31) rfl (fun c6 => ?_) (fun c6 => ?_)
            · have hf := if_t c6 hf
              refine e_aload_n dX11_years_33 0 rfl rfl (pc2 := 34) rfl ?_
              refine e_getR (r := 28) fl_X11_19 dX11_years_34 so_1 (rs_1_6 s.2.2) (by decide) (pc2 := 37) rfl ?_
              refine e_aload_n dX11_years_37 0 rfl rfl (pc2 := 38) rfl ?_
              refine e_getR (r := 64) fl_X11_64 dX11_years_38 so_1 (rs_1_5 s.2.2) (by decide) (pc2 := 41) rfl ?_
              obtain ⟨s8, hy7, hf⟩ := bnd_s hf
              refine e_callVn (t_X7_copyHand 28 (show okX7 28 = true from rfl) 64 (show okX7 64 = true from rfl) s hy7) dX11_years_41 cv_X11_225 rfl (okX7_o (show okX7 28 = true from rfl)) rc_7 (by decide) (by first | exact Nat.le_of_ble_eq_true rfl | simp [rva_cat, vc_i, vc_r, vc_l, vc_n]) nn0 rfl (pc2 := 44) rfl ?_
              refine e_iload_n dX11_years_44 1 rfl rfl (pc2 := 45) rfl ?_
              refine e_i2l dX11_years_45 (pc2 := 46) rfl ?_
              obtain ⟨x9, ex9, hf⟩ := ltb_s hf
              refine e_lstore dX11_years_46 (by decide) ex9.symm (ls' := [(0, .ref 1), (2, .int v2), (3, .int v3), (4, .long x9)]) [1, 3, 4, 0] rfl (pc2 := 48) rfl ?_
              refine e_iconst (x := 0) dX11_years_48 (by decide) (pc2 := 49) rfl ?_
              refine e_istore dX11_years_49 (by decide) rfl (ls' := [(0, .ref 1), (2, .int v2), (3, .int v3), (4, .long x9), (6, .int 0)]) [1, 2, 3, 4, 0] rfl (pc2 := 51) rfl ?_
              refine e_iconst (x := 0) dX11_years_51 (by decide) (pc2 := 52) rfl ?_
              refine e_istore dX11_years_52 (by decide) rfl (ls' := [(0, .ref 1), (2, .int v2), (3, .int v3), (4, .long x9), (6, .int 0), (7, .int 0)]) [1, 2, 3, 4, 5, 0] rfl (pc2 := 54) rfl ?_
              refine t_X11_years_l54 v2 v3 FU x9 0 0 s8 hf
            · have hf := if_f c6 hf
              refine e_iconst (x := (-1)) dX11_years_31 (by decide) (pc2 := 32) rfl ?_
              cases hf
              exact e_iret rfl dX11_years_32
abbrev DDX11_mark : Nat := 3
def f_X11_mark (v1 : Int32) (v2 : Int32) (s : HS) : Option (Int32 × HS) :=
  (if v1 < 0 then some (0, s) else (if v1 < 4 then gd (inb v1 4) (ltb (Rf 33 v1.toNatClampNeg) fun o4 => (if v2 = 0 then bnd (f_X7_copyAll o4 64 s) fun s11 => ltb (sI s11 o4 11 1) fun s12 => some (1, s12) else (if (s.1 o4 11) = 0 then some (0, s) else bnd (f_X7_copyAll 64 o4 s) fun s8 => ltb (sI s8 1 10 0) fun s9 => some (1, s9)))) else some (0, s)))
set_option maxRecDepth 20000 in
set_option maxHeartbeats 2000000 in
theorem t_X11_mark (v1 : Int32) (v2 : Int32) (s : HS) {x : Int32} {t : HS} (hf : f_X11_mark v1 v2 s = some (x, t)) : Mt DDX11_mark miX11_mark [.ref 1, .int v1, .int v2] NF (hp s) (some (.int x)) NF (hp t) := by
  refine Mt.of (by decide +kernel) (Nat.le_refl _) (Nat.le_of_ble_eq_true rfl) ?_
  show Ev DDX11_mark miX11_mark NF (some (.int x)) NF (hp t) 0 NF [(0, .ref 1), (1, .int v1), (2, .int v2)] [] (hp s)
  unfold f_X11_mark at hf
  refine e_iload_n dX11_mark_0 1 rfl rfl (pc2 := 1) rfl ?_
  refine e_if_lt (tgt := 13) dX11_mark_1 (by decide) (pc2 := 4) rfl (fun c1 => ?_) (fun c1 => ?_)
  · have hf := if_t c1 hf
    refine e_iconst (x := 0) dX11_mark_13 (by decide) (pc2 := 14) rfl ?_
    cases hf
    exact e_zret (by decide) rfl dX11_mark_14
  · have hf := if_f c1 hf
    refine e_iload_n dX11_mark_4 1 rfl rfl (pc2 := 5) rfl ?_
    refine e_aload_n dX11_mark_5 0 rfl rfl (pc2 := 6) rfl ?_
    refine e_getR (r := 33) fl_X11_23 dX11_mark_6 so_1 (rs_1_7 s.2.2) (by decide) (pc2 := 9) rfl ?_
    refine e_alen (x := 4) dX11_mark_9 sa_33 (by decide) (by decide) (pc2 := 10) rfl ?_
    refine e_icmp_lt (tgt := 15) dX11_mark_10 (by decide) (pc2 := 13) rfl (fun c2 => ?_) (fun c2 => ?_)
    · have hf := if_t c2 hf
      refine e_aload_n dX11_mark_15 0 rfl rfl (pc2 := 16) rfl ?_
      refine e_getR (r := 33) fl_X11_23 dX11_mark_16 so_1 (rs_1_7 s.2.2) (by decide) (pc2 := 19) rfl ?_
      refine e_iload_n dX11_mark_19 1 rfl rfl (pc2 := 20) rfl ?_
      obtain ⟨g3, hf⟩ := gd_some hf
      refine e_aald (r := Rf 33 v1.toNatClampNeg) dX11_mark_20 sa_33 (by decide) (inb_v g3) (Rs_na (q := s.2.2) sa_33 (by decide)) (okX7_ne (mk_el (inb_v g3))) (pc2 := 21) rfl ?_
      obtain ⟨o4, eo4, hf⟩ := ltb_s hf
      have ho4 : okX7 o4 = true := by rw [eo4]; exact (mk_el (inb_v g3))
      refine e_astore_n dX11_mark_21 rfl (by decide) eo4.symm (ls' := [(0, .ref 1), (2, .int v2), (3, .ref o4)]) [1, 3, 0] rfl (pc2 := 22) rfl ?_
      refine e_iload_n dX11_mark_22 1 rfl rfl (pc2 := 23) rfl ?_
      refine e_if_ne (tgt := 41) dX11_mark_23 (by decide) (pc2 := 26) rfl (fun c5 => ?_) (fun c5 => ?_)
      · have hf := if_f c5 hf
        refine e_aload_n dX11_mark_41 2 rfl rfl (pc2 := 42) rfl ?_
        refine e_getI fl_X11_94 dX11_mark_42 (okX7_o ho4) (by decide) (pc2 := 45) rfl ?_
        refine e_if_ne (tgt := 50) dX11_mark_45 (by decide) (pc2 := 48) rfl (fun c6 => ?_) (fun c6 => ?_)
        · have hf := if_f c6 hf
          refine e_aload_n dX11_mark_50 0 rfl rfl (pc2 := 51) rfl ?_
          refine e_getR (r := 64) fl_X11_64 dX11_mark_51 so_1 (rs_1_5 s.2.2) (by decide) (pc2 := 54) rfl ?_
          refine e_aload_n dX11_mark_54 2 rfl rfl (pc2 := 55) rfl ?_
          obtain ⟨s8, hy7, hf⟩ := bnd_s hf
          refine e_callVn (t_X7_copyAll 64 (show okX7 64 = true from rfl) o4 ho4 s hy7) dX11_mark_55 cv_X11_307 rfl (okX7_o (show okX7 64 = true from rfl)) rc_7 (by decide) (by first | exact Nat.le_of_ble_eq_true rfl | simp [rva_cat, vc_i, vc_r, vc_l, vc_n]) nn0 rfl (pc2 := 58) rfl ?_
          refine e_aload_n dX11_mark_58 0 rfl rfl (pc2 := 59) rfl ?_
          refine e_iconst (x := 0) dX11_mark_59 (by decide) (pc2 := 60) rfl ?_
          obtain ⟨s9, es9, hf⟩ := ltb_s hf
          refine e_putI fl_X11_91 dX11_mark_60 so_1 fn_10_10 (h2 := hp s9) (by rw [es9]; rfl) (pc2 := 63) rfl ?_
          refine e_iconst (x := 1) dX11_mark_63 (by decide) (pc2 := 64) rfl ?_
          cases hf
          exact e_zret (by decide) rfl dX11_mark_64
        · have hf := if_t c6 hf
          refine e_iconst (x := 0) dX11_mark_48 (by decide) (pc2 := 49) rfl ?_
          cases hf
          exact e_zret (by decide) rfl dX11_mark_49
      · have hf := if_t c5 hf
        refine e_aload_n dX11_mark_26 2 rfl rfl (pc2 := 27) rfl ?_
        refine e_aload_n dX11_mark_27 0 rfl rfl (pc2 := 28) rfl ?_
        refine e_getR (r := 64) fl_X11_64 dX11_mark_28 so_1 (rs_1_5 s.2.2) (by decide) (pc2 := 31) rfl ?_
        obtain ⟨s11, hy10, hf⟩ := bnd_s hf
        refine e_callVn (t_X7_copyAll o4 ho4 64 (show okX7 64 = true from rfl) s hy10) dX11_mark_31 cv_X11_307 rfl (okX7_o ho4) rc_7 (by decide) (by first | exact Nat.le_of_ble_eq_true rfl | simp [rva_cat, vc_i, vc_r, vc_l, vc_n]) nn0 rfl (pc2 := 34) rfl ?_
        refine e_aload_n dX11_mark_34 2 rfl rfl (pc2 := 35) rfl ?_
        refine e_iconst (x := 1) dX11_mark_35 (by decide) (pc2 := 36) rfl ?_
        obtain ⟨s12, es12, hf⟩ := ltb_s hf
        refine e_putZ fl_X11_94 dX11_mark_36 (okX7_o ho4) fn_7_11 (by decide) (by decide) (h2 := hp s12) (by rw [es12]; rfl) (pc2 := 39) rfl ?_
        refine e_iconst (x := 1) dX11_mark_39 (by decide) (pc2 := 40) rfl ?_
        cases hf
        exact e_zret (by decide) rfl dX11_mark_40
    · have hf := if_f c2 hf
      refine e_iconst (x := 0) dX11_mark_13 (by decide) (pc2 := 14) rfl ?_
      cases hf
      exact e_zret (by decide) rfl dX11_mark_14
abbrev DDX11_count : Nat := 1
def f_X11_count (v1 : Int32) (s : HS) : Option Int32 :=
  (if v1 = 0 then gd (okX4 (s.2.2.1)) (some (s.1 (s.2.2.1) 9)) else if v1 = 1 then gd (okX4 (s.2.2.1)) (some (s.1 (s.2.2.1) 12)) else if v1 = 2 then gd (okX4 (s.2.2.1)) (some (s.1 (s.2.2.1) 14)) else if v1 = 3 then gd (okX4 (s.2.2.1)) (some (s.1 (s.2.2.1) 0)) else if v1 = 4 then some (s.1 64 1) else if v1 = 5 then some (s.1 64 2) else if v1 = 6 then some (s.1 64 3) else if v1 = 7 then some (s.1 64 0) else if v1 = 8 then some (s.1 64 6) else if v1 = 9 then some (s.1 64 8) else if v1 = 10 then some (s.1 64 10) else if v1 = 11 then some (s.1 1 10) else if v1 = 12 then some (s.1 36 1) else some (-1))
set_option maxRecDepth 20000 in
set_option maxHeartbeats 2000000 in
theorem t_X11_count (v1 : Int32) (s : HS) {x : Int32} (hf : f_X11_count v1 s = some x) : Mt DDX11_count miX11_count [.ref 1, .int v1] NF (hp s) (some (.int x)) NF (hp s) := by
  refine Mt.of (by decide +kernel) (Nat.le_refl _) (Nat.le_of_ble_eq_true rfl) ?_
  show Ev DDX11_count miX11_count NF (some (.int x)) NF (hp s) 0 NF [(0, .ref 1), (1, .int v1)] [] (hp s)
  unfold f_X11_count at hf
  refine e_iload_n dX11_count_0 1 rfl rfl (pc2 := 1) rfl ?_
  by_cases c1 : v1 = 0
  · have hf := if_t c1 hf
    rw [c1]
    refine e_tableIn (tgt := 68) dX11_count_1 (by decide) (by decide) rfl (by decide) ?_
    refine e_aload_n dX11_count_68 0 rfl rfl (pc2 := 69) rfl ?_
    obtain ⟨g2, hf⟩ := gd_some hf
    refine e_getR (r := s.2.2.1) fl_X11_61 dX11_count_69 so_1 rfl (okX4_ne g2) (pc2 := 72) rfl ?_
    refine e_getI fl_X11_310 dX11_count_72 (okX4_o g2) (by decide) (pc2 := 75) rfl ?_
    cases hf
    exact e_iret rfl dX11_count_75
  have hf := if_f c1 hf
  by_cases c3 : v1 = 1
  · have hf := if_t c3 hf
    rw [c3]
    refine e_tableIn (tgt := 76) dX11_count_1 (by decide) (by decide) rfl (by decide) ?_
    refine e_aload_n dX11_count_76 0 rfl rfl (pc2 := 77) rfl ?_
    obtain ⟨g4, hf⟩ := gd_some hf
    refine e_getR (r := s.2.2.1) fl_X11_61 dX11_count_77 so_1 rfl (okX4_ne g4) (pc2 := 80) rfl ?_
    refine e_getI fl_X11_313 dX11_count_80 (okX4_o g4) (by decide) (pc2 := 83) rfl ?_
    cases hf
    exact e_iret rfl dX11_count_83
  have hf := if_f c3 hf
  by_cases c5 : v1 = 2
  · have hf := if_t c5 hf
    rw [c5]
    refine e_tableIn (tgt := 84) dX11_count_1 (by decide) (by decide) rfl (by decide) ?_
    refine e_aload_n dX11_count_84 0 rfl rfl (pc2 := 85) rfl ?_
    obtain ⟨g6, hf⟩ := gd_some hf
    refine e_getR (r := s.2.2.1) fl_X11_61 dX11_count_85 so_1 rfl (okX4_ne g6) (pc2 := 88) rfl ?_
    refine e_getI fl_X11_229 dX11_count_88 (okX4_o g6) (by decide) (pc2 := 91) rfl ?_
    cases hf
    exact e_iret rfl dX11_count_91
  have hf := if_f c5 hf
  by_cases c7 : v1 = 3
  · have hf := if_t c7 hf
    rw [c7]
    refine e_tableIn (tgt := 92) dX11_count_1 (by decide) (by decide) rfl (by decide) ?_
    refine e_aload_n dX11_count_92 0 rfl rfl (pc2 := 93) rfl ?_
    obtain ⟨g8, hf⟩ := gd_some hf
    refine e_getR (r := s.2.2.1) fl_X11_61 dX11_count_93 so_1 rfl (okX4_ne g8) (pc2 := 96) rfl ?_
    refine e_getI fl_X11_267 dX11_count_96 (okX4_o g8) (by decide) (pc2 := 99) rfl ?_
    cases hf
    exact e_iret rfl dX11_count_99
  have hf := if_f c7 hf
  by_cases c9 : v1 = 4
  · have hf := if_t c9 hf
    rw [c9]
    refine e_tableIn (tgt := 100) dX11_count_1 (by decide) (by decide) rfl (by decide) ?_
    refine e_aload_n dX11_count_100 0 rfl rfl (pc2 := 101) rfl ?_
    refine e_getR (r := 64) fl_X11_64 dX11_count_101 so_1 (rs_1_5 s.2.2) (by decide) (pc2 := 104) rfl ?_
    refine e_getI fl_X11_168 dX11_count_104 (okX7_o (show okX7 64 = true from rfl)) (by decide) (pc2 := 107) rfl ?_
    cases hf
    exact e_iret rfl dX11_count_107
  have hf := if_f c9 hf
  by_cases c10 : v1 = 5
  · have hf := if_t c10 hf
    rw [c10]
    refine e_tableIn (tgt := 108) dX11_count_1 (by decide) (by decide) rfl (by decide) ?_
    refine e_aload_n dX11_count_108 0 rfl rfl (pc2 := 109) rfl ?_
    refine e_getR (r := 64) fl_X11_64 dX11_count_109 so_1 (rs_1_5 s.2.2) (by decide) (pc2 := 112) rfl ?_
    refine e_getI fl_X11_161 dX11_count_112 (okX7_o (show okX7 64 = true from rfl)) (by decide) (pc2 := 115) rfl ?_
    cases hf
    exact e_iret rfl dX11_count_115
  have hf := if_f c10 hf
  by_cases c11 : v1 = 6
  · have hf := if_t c11 hf
    rw [c11]
    refine e_tableIn (tgt := 116) dX11_count_1 (by decide) (by decide) rfl (by decide) ?_
    refine e_aload_n dX11_count_116 0 rfl rfl (pc2 := 117) rfl ?_
    refine e_getR (r := 64) fl_X11_64 dX11_count_117 so_1 (rs_1_5 s.2.2) (by decide) (pc2 := 120) rfl ?_
    refine e_getI fl_X11_255 dX11_count_120 (okX7_o (show okX7 64 = true from rfl)) (by decide) (pc2 := 123) rfl ?_
    cases hf
    exact e_iret rfl dX11_count_123
  have hf := if_f c11 hf
  by_cases c12 : v1 = 7
  · have hf := if_t c12 hf
    rw [c12]
    refine e_tableIn (tgt := 124) dX11_count_1 (by decide) (by decide) rfl (by decide) ?_
    refine e_aload_n dX11_count_124 0 rfl rfl (pc2 := 125) rfl ?_
    refine e_getR (r := 64) fl_X11_64 dX11_count_125 so_1 (rs_1_5 s.2.2) (by decide) (pc2 := 128) rfl ?_
    refine e_getI fl_X11_158 dX11_count_128 (okX7_o (show okX7 64 = true from rfl)) (by decide) (pc2 := 131) rfl ?_
    cases hf
    exact e_iret rfl dX11_count_131
  have hf := if_f c12 hf
  by_cases c13 : v1 = 8
  · have hf := if_t c13 hf
    rw [c13]
    refine e_tableIn (tgt := 132) dX11_count_1 (by decide) (by decide) rfl (by decide) ?_
    refine e_aload_n dX11_count_132 0 rfl rfl (pc2 := 133) rfl ?_
    refine e_getR (r := 64) fl_X11_64 dX11_count_133 so_1 (rs_1_5 s.2.2) (by decide) (pc2 := 136) rfl ?_
    refine e_getI fl_X11_182 dX11_count_136 (okX7_o (show okX7 64 = true from rfl)) (by decide) (pc2 := 139) rfl ?_
    cases hf
    exact e_iret rfl dX11_count_139
  have hf := if_f c13 hf
  by_cases c14 : v1 = 9
  · have hf := if_t c14 hf
    rw [c14]
    refine e_tableIn (tgt := 140) dX11_count_1 (by decide) (by decide) rfl (by decide) ?_
    refine e_aload_n dX11_count_140 0 rfl rfl (pc2 := 141) rfl ?_
    refine e_getR (r := 64) fl_X11_64 dX11_count_141 so_1 (rs_1_5 s.2.2) (by decide) (pc2 := 144) rfl ?_
    refine e_getI fl_X11_282 dX11_count_144 (okX7_o (show okX7 64 = true from rfl)) (by decide) (pc2 := 147) rfl ?_
    cases hf
    exact e_iret rfl dX11_count_147
  have hf := if_f c14 hf
  by_cases c15 : v1 = 10
  · have hf := if_t c15 hf
    rw [c15]
    refine e_tableIn (tgt := 148) dX11_count_1 (by decide) (by decide) rfl (by decide) ?_
    refine e_aload_n dX11_count_148 0 rfl rfl (pc2 := 149) rfl ?_
    refine e_getR (r := 64) fl_X11_64 dX11_count_149 so_1 (rs_1_5 s.2.2) (by decide) (pc2 := 152) rfl ?_
    refine e_getI fl_X11_291 dX11_count_152 (okX7_o (show okX7 64 = true from rfl)) (by decide) (pc2 := 155) rfl ?_
    cases hf
    exact e_iret rfl dX11_count_155
  have hf := if_f c15 hf
  by_cases c16 : v1 = 11
  · have hf := if_t c16 hf
    rw [c16]
    refine e_tableIn (tgt := 156) dX11_count_1 (by decide) (by decide) rfl (by decide) ?_
    refine e_aload_n dX11_count_156 0 rfl rfl (pc2 := 157) rfl ?_
    refine e_getI fl_X11_91 dX11_count_157 so_1 (by decide) (pc2 := 160) rfl ?_
    cases hf
    exact e_iret rfl dX11_count_160
  have hf := if_f c16 hf
  by_cases c17 : v1 = 12
  · have hf := if_t c17 hf
    rw [c17]
    refine e_tableIn (tgt := 161) dX11_count_1 (by decide) (by decide) rfl (by decide) ?_
    refine e_aload_n dX11_count_161 0 rfl rfl (pc2 := 162) rfl ?_
    refine e_getR (r := 36) fl_X11_41 dX11_count_162 so_1 (rs_1_0 s.2.2) (by decide) (pc2 := 165) rfl ?_
    refine e_getI fl_X11_80 dX11_count_165 so_36 (by decide) (pc2 := 168) rfl ?_
    cases hf
    exact e_iret rfl dX11_count_168
  have hf := if_f c17 hf
  refine e_tableOut (tgt := 169) dX11_count_1 ?_ (by decide) ?_
  · have q0 := lv_neT (a := 0) c1 (by decide)
    have q1 := lv_neT (a := 1) c3 (by decide)
    have q2 := lv_neT (a := 2) c5 (by decide)
    have q3 := lv_neT (a := 3) c7 (by decide)
    have q4 := lv_neT (a := 4) c9 (by decide)
    have q5 := lv_neT (a := 5) c10 (by decide)
    have q6 := lv_neT (a := 6) c11 (by decide)
    have q7 := lv_neT (a := 7) c12 (by decide)
    have q8 := lv_neT (a := 8) c13 (by decide)
    have q9 := lv_neT (a := 9) c14 (by decide)
    have q10 := lv_neT (a := 10) c15 (by decide)
    have q11 := lv_neT (a := 11) c16 (by decide)
    have q12 := lv_neT (a := 12) c17 (by decide)
    omega
  refine e_iconst (x := (-1)) dX11_count_169 (by decide) (pc2 := 170) rfl ?_
  cases hf
  exact e_iret rfl dX11_count_170
abbrev DDX11_fillGains : Nat := 7
def f_X11_fillGains_l52b (v1 : Int32) (v2 : Int32) (v3 : Int32) (k52 : Int32 → HS → Option HS) (k118 : HS → Option HS) (s : HS) : Option HS :=
  gd (okX4 (s.2.2.1)) ((if (s.1 (s.2.2.1) 14) ≤ v3 then k118 s else gd (inb v3 6) (gd (inb ((v2 * 6) + v3) 384) (ltb (sI s 35 (((v2 * 6) + v3).toNatClampNeg) (((10 * (f_J6_bitCount_0f7a4 (s.1 78 v3.toNatClampNeg) s)) - (3 * ((v2 >>> (v3 &&& 31)) &&& (1 : Int32)))) - (50 * (((s.1 73 15) >>> (v3 &&& 31)) &&& (1 : Int32))))) fun s12 => ltb (v3 + 1) fun x14 => k52 x14 s12))))
set_option maxRecDepth 20000 in
set_option maxHeartbeats 2000000 in
theorem t_X11_fillGains_l52b (v1 : Int32) (v2 : Int32) (v3 : Int32) (s : HS) {t : HS} (k52 : Int32 → HS → Option HS) (hk52 : ∀ (a3 : Int32) (s : HS), k52 a3 s = some t → Ev DDX11_fillGains miX11_fillGains NF none NF (hp t) 52 NF [(0, .ref 1), (1, .int v1), (2, .int v2), (3, .int a3)] [] (hp s)) (k118 : HS → Option HS) (hk118 : ∀ (s : HS), k118 s = some t → Ev DDX11_fillGains miX11_fillGains NF none NF (hp t) 118 NF [(0, .ref 1), (1, .int v1), (2, .int v2)] [] (hp s)) (hf : f_X11_fillGains_l52b v1 v2 v3 k52 k118 s = some t) : Ev DDX11_fillGains miX11_fillGains NF none NF (hp t) 52 NF [(0, .ref 1), (1, .int v1), (2, .int v2), (3, .int v3)] [] (hp s) := by
  refine e_iload_n dX11_fillGains_52 3 rfl rfl (pc2 := 53) rfl ?_
  refine e_aload_n dX11_fillGains_53 0 rfl rfl (pc2 := 54) rfl ?_
  obtain ⟨g9, hf⟩ := gd_some hf
  refine e_getR (r := s.2.2.1) fl_X11_61 dX11_fillGains_54 so_1 rfl (okX4_ne g9) (pc2 := 57) rfl ?_
  refine e_getI fl_X11_229 dX11_fillGains_57 (okX4_o g9) (by decide) (pc2 := 60) rfl ?_
  refine e_icmp_ge (tgt := 118) dX11_fillGains_60 (by decide) (pc2 := 63) rfl (fun c10 => ?_) (fun c10 => ?_)
  · have hf := if_t c10 hf
    refine ev_sub [0, 1, 2] rfl ?_
    exact hk118 s hf
  · have hf := if_f c10 hf
    refine e_aload_n dX11_fillGains_63 0 rfl rfl (pc2 := 64) rfl ?_
    refine e_getR (r := 35) fl_X11_31 dX11_fillGains_64 so_1 (rs_1_11 s.2.2) (by decide) (pc2 := 67) rfl ?_
    refine e_iload_n dX11_fillGains_67 2 rfl rfl (pc2 := 68) rfl ?_
    refine e_bipush (x := 6) dX11_fillGains_68 (by decide) (pc2 := 70) rfl ?_
    refine e_imul dX11_fillGains_70 (pc2 := 71) rfl ?_
    refine e_iload_n dX11_fillGains_71 3 rfl rfl (pc2 := 72) rfl ?_
    refine e_iadd dX11_fillGains_72 (pc2 := 73) rfl ?_
    refine e_bipush (x := 10) dX11_fillGains_73 (by decide) (pc2 := 75) rfl ?_
    refine e_aload_n dX11_fillGains_75 0 rfl rfl (pc2 := 76) rfl ?_
    refine e_getR (r := 73) fl_X11_72 dX11_fillGains_76 so_1 (rs_1_8 s.2.2) (by decide) (pc2 := 79) rfl ?_
    refine e_getR (r := 78) fl_X11_203 dX11_fillGains_79 so_73 (rs_73_12 s.2.2) (by decide) (pc2 := 82) rfl ?_
    refine e_iload_n dX11_fillGains_82 3 rfl rfl (pc2 := 83) rfl ?_
    obtain ⟨g11, hf⟩ := gd_some hf
    refine e_iald dX11_fillGains_83 sa_78 (inb_v g11) (pc2 := 84) rfl ?_
    refine e_callSs (t_J6_bitCount_0f7a4 (s.1 78 v3.toNatClampNeg) s rfl) dX11_fillGains_84 cs_X11_215 rfl (by decide) (by first | exact Nat.le_of_ble_eq_true rfl | simp [rva_cat, vc_i, vc_r, vc_l, vc_n]) nn0 rfl (pc2 := 87) rfl ?_
    refine e_imul dX11_fillGains_87 (pc2 := 88) rfl ?_
    refine e_iconst (x := 3) dX11_fillGains_88 (by decide) (pc2 := 89) rfl ?_
    refine e_iload_n dX11_fillGains_89 2 rfl rfl (pc2 := 90) rfl ?_
    refine e_iload_n dX11_fillGains_90 3 rfl rfl (pc2 := 91) rfl ?_
    refine e_ishr dX11_fillGains_91 (pc2 := 92) rfl ?_
    refine e_iconst (x := 1) dX11_fillGains_92 (by decide) (pc2 := 93) rfl ?_
    refine e_iand dX11_fillGains_93 (pc2 := 94) rfl ?_
    refine e_imul dX11_fillGains_94 (pc2 := 95) rfl ?_
    refine e_isub dX11_fillGains_95 (pc2 := 96) rfl ?_
    refine e_bipush (x := 50) dX11_fillGains_96 (by decide) (pc2 := 98) rfl ?_
    refine e_aload_n dX11_fillGains_98 0 rfl rfl (pc2 := 99) rfl ?_
    refine e_getR (r := 73) fl_X11_72 dX11_fillGains_99 so_1 (rs_1_8 s.2.2) (by decide) (pc2 := 102) rfl ?_
    refine e_getI fl_X11_209 dX11_fillGains_102 so_73 (by decide) (pc2 := 105) rfl ?_
    refine e_iload_n dX11_fillGains_105 3 rfl rfl (pc2 := 106) rfl ?_
    refine e_ishr dX11_fillGains_106 (pc2 := 107) rfl ?_
    refine e_iconst (x := 1) dX11_fillGains_107 (by decide) (pc2 := 108) rfl ?_
    refine e_iand dX11_fillGains_108 (pc2 := 109) rfl ?_
    refine e_imul dX11_fillGains_109 (pc2 := 110) rfl ?_
    refine e_isub dX11_fillGains_110 (pc2 := 111) rfl ?_
    obtain ⟨g13, hf⟩ := gd_some hf
    obtain ⟨s12, es12, hf⟩ := ltb_s hf
    refine e_iast dX11_fillGains_111 sa_35 (inb_v g13) (h2 := hp s12) (by rw [es12]; rfl) (pc2 := 112) rfl ?_
    obtain ⟨x14, ex14, hf⟩ := ltb_s hf
    refine e_iinc dX11_fillGains_112 3 rfl (c9 := 1) (by decide) ex14.symm (by decide) (ls' := [(0, .ref 1), (1, .int v1), (2, .int v2), (3, .int x14)]) [1, 2, 3, 0] rfl (pc2 := 115) rfl ?_
    refine e_goto (tgt := 52) dX11_fillGains_115 (by decide) ?_
    exact hk52 x14 s12 hf
def f_X11_fillGains_l52 (v1 : Int32) (v2 : Int32) (k118 : HS → Option HS) : Nat → Int32 → HS → Option HS
  | 0, _, _ => none
  | n + 1, v3, s => f_X11_fillGains_l52b v1 v2 v3 (f_X11_fillGains_l52 v1 v2 k118 n) k118 s
set_option maxRecDepth 20000 in
set_option maxHeartbeats 2000000 in
theorem t_X11_fillGains_l52 (v1 : Int32) (v2 : Int32) {t : HS} (k118 : HS → Option HS) (hk118 : ∀ (s : HS), k118 s = some t → Ev DDX11_fillGains miX11_fillGains NF none NF (hp t) 118 NF [(0, .ref 1), (1, .int v1), (2, .int v2)] [] (hp s)) : ∀ (n : Nat) (v3 : Int32) (s : HS), f_X11_fillGains_l52 v1 v2 k118 n v3 s = some t → Ev DDX11_fillGains miX11_fillGains NF none NF (hp t) 52 NF [(0, .ref 1), (1, .int v1), (2, .int v2), (3, .int v3)] [] (hp s) := by
  intro n
  induction n with
  | zero =>
    intro v3 s hf
    have hf : none = some t := hf
    cases hf
  | succ n ih =>
    intro v3 s hf
    exact t_X11_fillGains_l52b v1 v2 v3  s _ ih _ hk118 hf
def f_X11_fillGains_l13b (v1 : Int32) (v2 : Int32) (k13 : Int32 → HS → Option HS) (s : HS) : Option HS :=
  (if v1 < v2 then some s else (if (v2 &&& (v1 ^^^ ((-1) : Int32))) = 0 then ltb (sI s 28 0 (((s.1 64 0) &&& (v1 ^^^ ((-1) : Int32))) ||| v2)) fun s6 => bnd (f_X11_playTrial s6) fun s8 => f_X11_fillGains_l52 v1 v2 (fun s15 => ltb (v2 + 1) fun x16 => k13 x16 s15) FU 0 s8 else ltb (v2 + 1) fun x5 => k13 x5 s))
set_option maxRecDepth 20000 in
set_option maxHeartbeats 2000000 in
theorem t_X11_fillGains_l13b (v1 : Int32) (v2 : Int32) (s : HS) {t : HS} (k13 : Int32 → HS → Option HS) (hk13 : ∀ (a2 : Int32) (s : HS), k13 a2 s = some t → Ev DDX11_fillGains miX11_fillGains NF none NF (hp t) 13 NF [(0, .ref 1), (1, .int v1), (2, .int a2)] [] (hp s)) (hf : f_X11_fillGains_l13b v1 v2 k13 s = some t) : Ev DDX11_fillGains miX11_fillGains NF none NF (hp t) 13 NF [(0, .ref 1), (1, .int v1), (2, .int v2)] [] (hp s) := by
  refine e_iload_n dX11_fillGains_13 2 rfl rfl (pc2 := 14) rfl ?_
  refine e_iload_n dX11_fillGains_14 1 rfl rfl (pc2 := 15) rfl ?_
  refine e_icmp_gt (tgt := 124) dX11_fillGains_15 (by decide) (pc2 := 18) rfl (fun c3 => ?_) (fun c3 => ?_)
  · have hf := if_t c3 hf
    cases hf
    exact e_vret rfl dX11_fillGains_124
  · have hf := if_f c3 hf
    refine e_iload_n dX11_fillGains_18 2 rfl rfl (pc2 := 19) rfl ?_
    refine e_iload_n dX11_fillGains_19 1 rfl rfl (pc2 := 20) rfl ?_
    refine e_iconst (x := (-1)) dX11_fillGains_20 (by decide) (pc2 := 21) rfl ?_
    refine e_ixor dX11_fillGains_21 (pc2 := 22) rfl ?_
    refine e_iand dX11_fillGains_22 (pc2 := 23) rfl ?_
    refine e_if_ne (tgt := 118) dX11_fillGains_23 (by decide) (pc2 := 26) rfl (fun c4 => ?_) (fun c4 => ?_)
    · have hf := if_f c4 hf
      obtain ⟨x5, ex5, hf⟩ := ltb_s hf
      refine e_iinc dX11_fillGains_118 2 rfl (c9 := 1) (by decide) ex5.symm (by decide) (ls' := [(0, .ref 1), (1, .int v1), (2, .int x5)]) [1, 2, 0] rfl (pc2 := 121) rfl ?_
      refine e_goto (tgt := 13) dX11_fillGains_121 (by decide) ?_
      exact hk13 x5 s hf
    · have hf := if_t c4 hf
      refine e_aload_n dX11_fillGains_26 0 rfl rfl (pc2 := 27) rfl ?_
      refine e_getR (r := 28) fl_X11_19 dX11_fillGains_27 so_1 (rs_1_6 s.2.2) (by decide) (pc2 := 30) rfl ?_
      refine e_aload_n dX11_fillGains_30 0 rfl rfl (pc2 := 31) rfl ?_
      refine e_getR (r := 64) fl_X11_64 dX11_fillGains_31 so_1 (rs_1_5 s.2.2) (by decide) (pc2 := 34) rfl ?_
      refine e_getI fl_X11_158 dX11_fillGains_34 (okX7_o (show okX7 64 = true from rfl)) (by decide) (pc2 := 37) rfl ?_
      refine e_iload_n dX11_fillGains_37 1 rfl rfl (pc2 := 38) rfl ?_
      refine e_iconst (x := (-1)) dX11_fillGains_38 (by decide) (pc2 := 39) rfl ?_
      refine e_ixor dX11_fillGains_39 (pc2 := 40) rfl ?_
      refine e_iand dX11_fillGains_40 (pc2 := 41) rfl ?_
      refine e_iload_n dX11_fillGains_41 2 rfl rfl (pc2 := 42) rfl ?_
      refine e_ior dX11_fillGains_42 (pc2 := 43) rfl ?_
      obtain ⟨s6, es6, hf⟩ := ltb_s hf
      refine e_putI fl_X11_158 dX11_fillGains_43 (okX7_o (show okX7 28 = true from rfl)) fn_7_0 (h2 := hp s6) (by rw [es6]; rfl) (pc2 := 46) rfl ?_
      refine e_aload_n dX11_fillGains_46 0 rfl rfl (pc2 := 47) rfl ?_
      obtain ⟨s8, hy7, hf⟩ := bnd_s hf
      refine e_callVn (t_X11_playTrial  s6 hy7) dX11_fillGains_47 cv_X11_184 rfl so_1 rc_10 (by decide) (by first | exact Nat.le_of_ble_eq_true rfl | simp [rva_cat, vc_i, vc_r, vc_l, vc_n]) nn0 rfl (pc2 := 50) rfl ?_
      refine e_iconst (x := 0) dX11_fillGains_50 (by decide) (pc2 := 51) rfl ?_
      refine e_istore_n dX11_fillGains_51 rfl (by decide) rfl (ls' := [(0, .ref 1), (1, .int v1), (2, .int v2), (3, .int 0)]) [1, 2, 3, 0] rfl (pc2 := 52) rfl ?_
      refine t_X11_fillGains_l52 v1 v2 _ ?_ FU 0 s8 hf
      · intro s15 hf
        obtain ⟨x16, ex16, hf⟩ := ltb_s hf
        refine e_iinc dX11_fillGains_118 2 rfl (c9 := 1) (by decide) ex16.symm (by decide) (ls' := [(0, .ref 1), (1, .int v1), (2, .int x16)]) [1, 2, 0] rfl (pc2 := 121) rfl ?_
        refine e_goto (tgt := 13) dX11_fillGains_121 (by decide) ?_
        exact hk13 x16 s15 hf
def f_X11_fillGains_l13 (v1 : Int32) : Nat → Int32 → HS → Option HS
  | 0, _, _ => none
  | n + 1, v2, s => f_X11_fillGains_l13b v1 v2 (f_X11_fillGains_l13 v1 n)  s
set_option maxRecDepth 20000 in
set_option maxHeartbeats 2000000 in
theorem t_X11_fillGains_l13 (v1 : Int32) {t : HS}  : ∀ (n : Nat) (v2 : Int32) (s : HS), f_X11_fillGains_l13 v1 n v2 s = some t → Ev DDX11_fillGains miX11_fillGains NF none NF (hp t) 13 NF [(0, .ref 1), (1, .int v1), (2, .int v2)] [] (hp s) := by
  intro n
  induction n with
  | zero =>
    intro v2 s hf
    have hf : none = some t := hf
    cases hf
  | succ n ih =>
    intro v2 s hf
    exact t_X11_fillGains_l13b v1 v2  s _ ih  hf
def f_X11_fillGains (v1 : Int32) (s : HS) : Option HS :=
  bnd (f_X7_copyHand 28 64 s) fun s2 => f_X11_fillGains_l13 v1 FU 0 s2
set_option maxRecDepth 20000 in
set_option maxHeartbeats 2000000 in
theorem t_X11_fillGains (v1 : Int32) (s : HS) {t : HS} (hf : f_X11_fillGains v1 s = some t) : Mt DDX11_fillGains miX11_fillGains [.ref 1, .int v1] NF (hp s) none NF (hp t) := by
  refine Mt.of (by decide +kernel) (Nat.le_refl _) (Nat.le_of_ble_eq_true rfl) ?_
  show Ev DDX11_fillGains miX11_fillGains NF none NF (hp t) 0 NF [(0, .ref 1), (1, .int v1)] [] (hp s)
  unfold f_X11_fillGains at hf
  refine e_aload_n dX11_fillGains_0 0 rfl rfl (pc2 := 1) rfl ?_
  refine e_getR (r := 28) fl_X11_19 dX11_fillGains_1 so_1 (rs_1_6 s.2.2) (by decide) (pc2 := 4) rfl ?_
  refine e_aload_n dX11_fillGains_4 0 rfl rfl (pc2 := 5) rfl ?_
  refine e_getR (r := 64) fl_X11_64 dX11_fillGains_5 so_1 (rs_1_5 s.2.2) (by decide) (pc2 := 8) rfl ?_
  obtain ⟨s2, hy1, hf⟩ := bnd_s hf
  refine e_callVn (t_X7_copyHand 28 (show okX7 28 = true from rfl) 64 (show okX7 64 = true from rfl) s hy1) dX11_fillGains_8 cv_X11_225 rfl (okX7_o (show okX7 28 = true from rfl)) rc_7 (by decide) (by first | exact Nat.le_of_ble_eq_true rfl | simp [rva_cat, vc_i, vc_r, vc_l, vc_n]) nn0 rfl (pc2 := 11) rfl ?_
  refine e_iconst (x := 0) dX11_fillGains_11 (by decide) (pc2 := 12) rfl ?_
  refine e_istore_n dX11_fillGains_12 rfl (by decide) rfl (ls' := [(0, .ref 1), (1, .int v1), (2, .int 0)]) [1, 2, 0] rfl (pc2 := 13) rfl ?_
  refine t_X11_fillGains_l13 v1 FU 0 s2 hf
abbrev DDX11_isAtRest : Nat := 1
def f_X11_isAtRest_l2b (v1 : Int32) (v2 : Int32) (v3 : Int32) (k2 : Int32 → Option Int32) (s : HS) : Option Int32 :=
  gd (okX4 (s.2.2.1)) ((if (s.1 (s.2.2.1) 14) ≤ v3 then some 1 else ltb (v2 ^^^ ((1 : Int32) <<< (v3 &&& 31))) fun x3 => (if ((v1 >>> (v3 &&& 31)) &&& (1 : Int32)) = 0 then ltb (v3 + 1) fun x5 => k2 x5 else gd (inb ((x3 * 6) + v3) 384) (gd (inb ((v2 * 6) + v3) 384) ((if (s.1 35 ((x3 * 6) + v3).toNatClampNeg) ≤ (s.1 35 ((v2 * 6) + v3).toNatClampNeg) then ltb (v3 + 1) fun x9 => k2 x9 else some 0))))))
set_option maxRecDepth 20000 in
set_option maxHeartbeats 2000000 in
theorem t_X11_isAtRest_l2b (v1 : Int32) (v2 : Int32) (v3 : Int32) (s : HS) {x : Int32} (k2 : Int32 → Option Int32) (hk2 : ∀ (a3 : Int32), k2 a3 = some x → Ev DDX11_isAtRest miX11_isAtRest NF (some (.int x)) NF (hp s) 2 NF [(0, .ref 1), (1, .int v1), (2, .int v2), (3, .int a3)] [] (hp s)) (hf : f_X11_isAtRest_l2b v1 v2 v3 k2 s = some x) : Ev DDX11_isAtRest miX11_isAtRest NF (some (.int x)) NF (hp s) 2 NF [(0, .ref 1), (1, .int v1), (2, .int v2), (3, .int v3)] [] (hp s) := by
  refine e_iload_n dX11_isAtRest_2 3 rfl rfl (pc2 := 3) rfl ?_
  refine e_aload_n dX11_isAtRest_3 0 rfl rfl (pc2 := 4) rfl ?_
  obtain ⟨g1, hf⟩ := gd_some hf
  refine e_getR (r := s.2.2.1) fl_X11_61 dX11_isAtRest_4 so_1 rfl (okX4_ne g1) (pc2 := 7) rfl ?_
  refine e_getI fl_X11_229 dX11_isAtRest_7 (okX4_o g1) (by decide) (pc2 := 10) rfl ?_
  refine e_icmp_ge (tgt := 62) dX11_isAtRest_10 (by decide) (pc2 := 13) rfl (fun c2 => ?_) (fun c2 => ?_)
  · have hf := if_t c2 hf
    refine e_iconst (x := 1) dX11_isAtRest_62 (by decide) (pc2 := 63) rfl ?_
    cases hf
    exact e_zret (by decide) rfl dX11_isAtRest_63
  · have hf := if_f c2 hf
    refine e_iload_n dX11_isAtRest_13 2 rfl rfl (pc2 := 14) rfl ?_
    refine e_iconst (x := 1) dX11_isAtRest_14 (by decide) (pc2 := 15) rfl ?_
    refine e_iload_n dX11_isAtRest_15 3 rfl rfl (pc2 := 16) rfl ?_
    refine e_ishl dX11_isAtRest_16 (pc2 := 17) rfl ?_
    refine e_ixor dX11_isAtRest_17 (pc2 := 18) rfl ?_
    obtain ⟨x3, ex3, hf⟩ := ltb_s hf
    refine e_istore dX11_isAtRest_18 (by decide) ex3.symm (ls' := [(0, .ref 1), (1, .int v1), (2, .int v2), (3, .int v3), (4, .int x3)]) [1, 2, 3, 4, 0] rfl (pc2 := 20) rfl ?_
    refine e_iload_n dX11_isAtRest_20 1 rfl rfl (pc2 := 21) rfl ?_
    refine e_iload_n dX11_isAtRest_21 3 rfl rfl (pc2 := 22) rfl ?_
    refine e_ishr dX11_isAtRest_22 (pc2 := 23) rfl ?_
    refine e_iconst (x := 1) dX11_isAtRest_23 (by decide) (pc2 := 24) rfl ?_
    refine e_iand dX11_isAtRest_24 (pc2 := 25) rfl ?_
    refine e_if_eq (tgt := 56) dX11_isAtRest_25 (by decide) (pc2 := 28) rfl (fun c4 => ?_) (fun c4 => ?_)
    · have hf := if_t c4 hf
      obtain ⟨x5, ex5, hf⟩ := ltb_s hf
      refine e_iinc dX11_isAtRest_56 3 rfl (c9 := 1) (by decide) ex5.symm (by decide) (ls' := [(0, .ref 1), (1, .int v1), (2, .int v2), (3, .int x5)]) [1, 2, 3, 0] rfl (pc2 := 59) rfl ?_
      refine e_goto (tgt := 2) dX11_isAtRest_59 (by decide) ?_
      exact hk2 x5 hf
    · have hf := if_f c4 hf
      refine e_aload_n dX11_isAtRest_28 0 rfl rfl (pc2 := 29) rfl ?_
      refine e_getR (r := 35) fl_X11_31 dX11_isAtRest_29 so_1 (rs_1_11 s.2.2) (by decide) (pc2 := 32) rfl ?_
      refine e_iload dX11_isAtRest_32 4 rfl (pc2 := 34) rfl ?_
      refine e_bipush (x := 6) dX11_isAtRest_34 (by decide) (pc2 := 36) rfl ?_
      refine e_imul dX11_isAtRest_36 (pc2 := 37) rfl ?_
      refine e_iload_n dX11_isAtRest_37 3 rfl rfl (pc2 := 38) rfl ?_
      refine e_iadd dX11_isAtRest_38 (pc2 := 39) rfl ?_
      obtain ⟨g6, hf⟩ := gd_some hf
      refine e_iald dX11_isAtRest_39 sa_35 (inb_v g6) (pc2 := 40) rfl ?_
      refine e_aload_n dX11_isAtRest_40 0 rfl rfl (pc2 := 41) rfl ?_
      refine e_getR (r := 35) fl_X11_31 dX11_isAtRest_41 so_1 (rs_1_11 s.2.2) (by decide) (pc2 := 44) rfl ?_
      refine e_iload_n dX11_isAtRest_44 2 rfl rfl (pc2 := 45) rfl ?_
      refine e_bipush (x := 6) dX11_isAtRest_45 (by decide) (pc2 := 47) rfl ?_
      refine e_imul dX11_isAtRest_47 (pc2 := 48) rfl ?_
      refine e_iload_n dX11_isAtRest_48 3 rfl rfl (pc2 := 49) rfl ?_
      refine e_iadd dX11_isAtRest_49 (pc2 := 50) rfl ?_
      obtain ⟨g7, hf⟩ := gd_some hf
      refine e_iald dX11_isAtRest_50 sa_35 (inb_v g7) (pc2 := 51) rfl ?_
      refine e_icmp_le (tgt := 56) dX11_isAtRest_51 (by decide) (pc2 := 54) rfl (fun c8 => ?_) (fun c8 => ?_)
      · have hf := if_t c8 hf
        obtain ⟨x9, ex9, hf⟩ := ltb_s hf
        refine e_iinc dX11_isAtRest_56 3 rfl (c9 := 1) (by decide) ex9.symm (by decide) (ls' := [(0, .ref 1), (1, .int v1), (2, .int v2), (3, .int x9)]) [1, 2, 3, 0] rfl (pc2 := 59) rfl ?_
        refine e_goto (tgt := 2) dX11_isAtRest_59 (by decide) ?_
        exact hk2 x9 hf
      · have hf := if_f c8 hf
        refine e_iconst (x := 0) dX11_isAtRest_54 (by decide) (pc2 := 55) rfl ?_
        cases hf
        exact e_zret (by decide) rfl dX11_isAtRest_55
def f_X11_isAtRest_l2 (v1 : Int32) (v2 : Int32) (s : HS) : Nat → Int32 → Option Int32
  | 0, _ => none
  | n + 1, v3 => f_X11_isAtRest_l2b v1 v2 v3 (f_X11_isAtRest_l2 v1 v2 s n)  s
set_option maxRecDepth 20000 in
set_option maxHeartbeats 2000000 in
theorem t_X11_isAtRest_l2 (v1 : Int32) (v2 : Int32) (s : HS) {x : Int32}  : ∀ (n : Nat) (v3 : Int32), f_X11_isAtRest_l2 v1 v2 s n v3 = some x → Ev DDX11_isAtRest miX11_isAtRest NF (some (.int x)) NF (hp s) 2 NF [(0, .ref 1), (1, .int v1), (2, .int v2), (3, .int v3)] [] (hp s) := by
  intro n
  induction n with
  | zero =>
    intro v3 hf
    have hf : none = some x := hf
    cases hf
  | succ n ih =>
    intro v3 hf
    exact t_X11_isAtRest_l2b v1 v2 v3  s _ ih  hf
def f_X11_isAtRest (v1 : Int32) (v2 : Int32) (s : HS) : Option Int32 :=
  f_X11_isAtRest_l2 v1 v2 s FU 0
set_option maxRecDepth 20000 in
set_option maxHeartbeats 2000000 in
theorem t_X11_isAtRest (v1 : Int32) (v2 : Int32) (s : HS) {x : Int32} (hf : f_X11_isAtRest v1 v2 s = some x) : Mt DDX11_isAtRest miX11_isAtRest [.ref 1, .int v1, .int v2] NF (hp s) (some (.int x)) NF (hp s) := by
  refine Mt.of (by decide +kernel) (Nat.le_refl _) (Nat.le_of_ble_eq_true rfl) ?_
  show Ev DDX11_isAtRest miX11_isAtRest NF (some (.int x)) NF (hp s) 0 NF [(0, .ref 1), (1, .int v1), (2, .int v2)] [] (hp s)
  unfold f_X11_isAtRest at hf
  refine e_iconst (x := 0) dX11_isAtRest_0 (by decide) (pc2 := 1) rfl ?_
  refine e_istore_n dX11_isAtRest_1 rfl (by decide) rfl (ls' := [(0, .ref 1), (1, .int v1), (2, .int v2), (3, .int 0)]) [1, 2, 3, 0] rfl (pc2 := 2) rfl ?_
  refine t_X11_isAtRest_l2 v1 v2 s FU 0 hf
abbrev DDX12_thrown : Nat := 1
def f_X12_thrown  (s : HS) : Int32 :=
  s.1 101 0
set_option maxRecDepth 20000 in
set_option maxHeartbeats 2000000 in
theorem t_X12_thrown  (s : HS) {x : Int32} (hf : f_X12_thrown s = x) : Mt DDX12_thrown miX12_thrown [.ref 101] NF (hp s) (some (.int x)) NF (hp s) := by
  refine Mt.of (by decide +kernel) (Nat.le_refl _) (Nat.le_of_ble_eq_true rfl) ?_
  show Ev DDX12_thrown miX12_thrown NF (some (.int x)) NF (hp s) 0 NF [(0, .ref 101)] [] (hp s)
  unfold f_X12_thrown at hf
  refine e_aload_n dX12_thrown_0 0 rfl rfl (pc2 := 1) rfl ?_
  refine e_getI fl_X12_194 dX12_thrown_1 so_101 (by decide) (pc2 := 4) rfl ?_
  cases hf
  exact e_iret rfl dX12_thrown_4
abbrev DDX12_within : Nat := 1
def f_X12_within (v0 : Int32) (v1 : Int32) (v2 : Int32) (s : HS) : Int32 :=
  (if v0 < v1 then 0 else (if v2 < v0 then 0 else 1))
set_option maxRecDepth 20000 in
set_option maxHeartbeats 2000000 in
theorem t_X12_within (v0 : Int32) (v1 : Int32) (v2 : Int32) (s : HS) {x : Int32} (hf : f_X12_within v0 v1 v2 s = x) : Mt DDX12_within miX12_within [.int v0, .int v1, .int v2] NF (hp s) (some (.int x)) NF (hp s) := by
  refine Mt.of (by decide +kernel) (Nat.le_refl _) (Nat.le_of_ble_eq_true rfl) ?_
  show Ev DDX12_within miX12_within NF (some (.int x)) NF (hp s) 0 NF [(0, .int v0), (1, .int v1), (2, .int v2)] [] (hp s)
  unfold f_X12_within at hf
  refine e_iload_n dX12_within_0 0 rfl rfl (pc2 := 1) rfl ?_
  refine e_iload_n dX12_within_1 1 rfl rfl (pc2 := 2) rfl ?_
  refine e_icmp_lt (tgt := 14) dX12_within_2 (by decide) (pc2 := 5) rfl (fun c1 => ?_) (fun c1 => ?_)
  · have hf := if_t c1 hf
    refine e_iconst (x := 0) dX12_within_14 (by decide) (pc2 := 15) rfl ?_
    cases hf
    exact e_zret (by decide) rfl dX12_within_15
  · have hf := if_f c1 hf
    refine e_iload_n dX12_within_5 0 rfl rfl (pc2 := 6) rfl ?_
    refine e_iload_n dX12_within_6 2 rfl rfl (pc2 := 7) rfl ?_
    refine e_icmp_gt (tgt := 14) dX12_within_7 (by decide) (pc2 := 10) rfl (fun c2 => ?_) (fun c2 => ?_)
    · have hf := if_t c2 hf
      refine e_iconst (x := 0) dX12_within_14 (by decide) (pc2 := 15) rfl ?_
      cases hf
      exact e_zret (by decide) rfl dX12_within_15
    · have hf := if_f c2 hf
      refine e_iconst (x := 1) dX12_within_10 (by decide) (pc2 := 11) rfl ?_
      refine e_goto (tgt := 15) dX12_within_11 (by decide) ?_
      cases hf
      exact e_zret (by decide) rfl dX12_within_15
abbrev DDX12_away : Nat := 1
def f_X12_away (v0 : Int32) (v1 : Int32) (s : HS) : Int32 :=
  (if v1 ≤ v0 then v0 - v1 else v1 - v0)
set_option maxRecDepth 20000 in
set_option maxHeartbeats 2000000 in
theorem t_X12_away (v0 : Int32) (v1 : Int32) (s : HS) {x : Int32} (hf : f_X12_away v0 v1 s = x) : Mt DDX12_away miX12_away [.int v0, .int v1] NF (hp s) (some (.int x)) NF (hp s) := by
  refine Mt.of (by decide +kernel) (Nat.le_refl _) (Nat.le_of_ble_eq_true rfl) ?_
  show Ev DDX12_away miX12_away NF (some (.int x)) NF (hp s) 0 NF [(0, .int v0), (1, .int v1)] [] (hp s)
  unfold f_X12_away at hf
  refine e_iload_n dX12_away_0 0 rfl rfl (pc2 := 1) rfl ?_
  refine e_iload_n dX12_away_1 1 rfl rfl (pc2 := 2) rfl ?_
  refine e_icmp_ge (tgt := 11) dX12_away_2 (by decide) (pc2 := 5) rfl (fun c1 => ?_) (fun c1 => ?_)
  · have hf := if_t c1 hf
    refine e_iload_n dX12_away_11 0 rfl rfl (pc2 := 12) rfl ?_
    refine e_iload_n dX12_away_12 1 rfl rfl (pc2 := 13) rfl ?_
    refine e_isub dX12_away_13 (pc2 := 14) rfl ?_
    cases hf
    exact e_iret rfl dX12_away_14
  · have hf := if_f c1 hf
    refine e_iload_n dX12_away_5 1 rfl rfl (pc2 := 6) rfl ?_
    refine e_iload_n dX12_away_6 0 rfl rfl (pc2 := 7) rfl ?_
    refine e_isub dX12_away_7 (pc2 := 8) rfl ?_
    refine e_goto (tgt := 14) dX12_away_8 (by decide) ?_
    cases hf
    exact e_iret rfl dX12_away_14
abbrev DDX12_bits : Nat := 1
def f_X12_bits_l4b (v0 : Int32) (v1 : Int32) (v2 : Int32) (k4 : Int32 → Int32 → Option Int32) (s : HS) : Option Int32 :=
  (if 6 ≤ v2 then some v1 else ltb (v1 + ((v0 >>> (v2 &&& 31)) &&& (1 : Int32))) fun x2 => ltb (v2 + 1) fun x3 => k4 x2 x3)
set_option maxRecDepth 20000 in
set_option maxHeartbeats 2000000 in
theorem t_X12_bits_l4b (v0 : Int32) (v1 : Int32) (v2 : Int32) (s : HS) {x : Int32} (k4 : Int32 → Int32 → Option Int32) (hk4 : ∀ (a1 : Int32) (a2 : Int32), k4 a1 a2 = some x → Ev DDX12_bits miX12_bits NF (some (.int x)) NF (hp s) 4 NF [(0, .int v0), (1, .int a1), (2, .int a2)] [] (hp s)) (hf : f_X12_bits_l4b v0 v1 v2 k4 s = some x) : Ev DDX12_bits miX12_bits NF (some (.int x)) NF (hp s) 4 NF [(0, .int v0), (1, .int v1), (2, .int v2)] [] (hp s) := by
  refine e_iload_n dX12_bits_4 2 rfl rfl (pc2 := 5) rfl ?_
  refine e_bipush (x := 6) dX12_bits_5 (by decide) (pc2 := 7) rfl ?_
  refine e_icmp_ge (tgt := 24) dX12_bits_7 (by decide) (pc2 := 10) rfl (fun c1 => ?_) (fun c1 => ?_)
  · have hf := if_t c1 hf
    refine e_iload_n dX12_bits_24 1 rfl rfl (pc2 := 25) rfl ?_
    cases hf
    exact e_iret rfl dX12_bits_25
  · have hf := if_f c1 hf
    refine e_iload_n dX12_bits_10 1 rfl rfl (pc2 := 11) rfl ?_
    refine e_iload_n dX12_bits_11 0 rfl rfl (pc2 := 12) rfl ?_
    refine e_iload_n dX12_bits_12 2 rfl rfl (pc2 := 13) rfl ?_
    refine e_ishr dX12_bits_13 (pc2 := 14) rfl ?_
    refine e_iconst (x := 1) dX12_bits_14 (by decide) (pc2 := 15) rfl ?_
    refine e_iand dX12_bits_15 (pc2 := 16) rfl ?_
    refine e_iadd dX12_bits_16 (pc2 := 17) rfl ?_
    obtain ⟨x2, ex2, hf⟩ := ltb_s hf
    refine e_istore_n dX12_bits_17 rfl (by decide) ex2.symm (ls' := [(0, .int v0), (1, .int x2), (2, .int v2)]) [1, 0, 2] rfl (pc2 := 18) rfl ?_
    obtain ⟨x3, ex3, hf⟩ := ltb_s hf
    refine e_iinc dX12_bits_18 2 rfl (c9 := 1) (by decide) ex3.symm (by decide) (ls' := [(0, .int v0), (1, .int x2), (2, .int x3)]) [1, 2, 0] rfl (pc2 := 21) rfl ?_
    refine e_goto (tgt := 4) dX12_bits_21 (by decide) ?_
    exact hk4 x2 x3 hf
def f_X12_bits_l4 (v0 : Int32) (s : HS) : Nat → Int32 → Int32 → Option Int32
  | 0, _, _ => none
  | n + 1, v1, v2 => f_X12_bits_l4b v0 v1 v2 (f_X12_bits_l4 v0 s n)  s
set_option maxRecDepth 20000 in
set_option maxHeartbeats 2000000 in
theorem t_X12_bits_l4 (v0 : Int32) (s : HS) {x : Int32}  : ∀ (n : Nat) (v1 : Int32) (v2 : Int32), f_X12_bits_l4 v0 s n v1 v2 = some x → Ev DDX12_bits miX12_bits NF (some (.int x)) NF (hp s) 4 NF [(0, .int v0), (1, .int v1), (2, .int v2)] [] (hp s) := by
  intro n
  induction n with
  | zero =>
    intro v1 v2 hf
    have hf : none = some x := hf
    cases hf
  | succ n ih =>
    intro v1 v2 hf
    exact t_X12_bits_l4b v0 v1 v2  s _ ih  hf
def f_X12_bits (v0 : Int32) (s : HS) : Option Int32 :=
  f_X12_bits_l4 v0 s FU 0 0
set_option maxRecDepth 20000 in
set_option maxHeartbeats 2000000 in
theorem t_X12_bits (v0 : Int32) (s : HS) {x : Int32} (hf : f_X12_bits v0 s = some x) : Mt DDX12_bits miX12_bits [.int v0] NF (hp s) (some (.int x)) NF (hp s) := by
  refine Mt.of (by decide +kernel) (Nat.le_refl _) (Nat.le_of_ble_eq_true rfl) ?_
  show Ev DDX12_bits miX12_bits NF (some (.int x)) NF (hp s) 0 NF [(0, .int v0)] [] (hp s)
  unfold f_X12_bits at hf
  refine e_iconst (x := 0) dX12_bits_0 (by decide) (pc2 := 1) rfl ?_
  refine e_istore_n dX12_bits_1 rfl (by decide) rfl (ls' := [(0, .int v0), (1, .int 0)]) [1, 0] rfl (pc2 := 2) rfl ?_
  refine e_iconst (x := 0) dX12_bits_2 (by decide) (pc2 := 3) rfl ?_
  refine e_istore_n dX12_bits_3 rfl (by decide) rfl (ls' := [(0, .int v0), (1, .int 0), (2, .int 0)]) [1, 2, 0] rfl (pc2 := 4) rfl ?_
  refine t_X12_bits_l4 v0 s FU 0 0 hf
abbrev DDX12_feed : Nat := 1
def f_X12_feed_j93 (v1 : Int64) (v3 : Int64) (v5 : Int64) (v7 : Int32) (v10 : Int32) (k8 : Int32 → HS → Option (Int32 × HS)) (s : HS) : Option (Int32 × HS) :=
  gd (inb (s.1 101 1) 1000) (ltb (sI s 102 ((s.1 101 1).toNatClampNeg) v10) fun s9 => ltb (sI s9 101 1 ((s9.1 101 1) + 1)) fun s11 => ltb (v7 + 1) fun x12 => k8 x12 s11)
set_option maxRecDepth 20000 in
set_option maxHeartbeats 2000000 in
theorem t_X12_feed_j93 (v1 : Int64) (v3 : Int64) (v5 : Int64) (v7 : Int32) (v10 : Int32) (s : HS) {x : Int32} {t : HS} (k8 : Int32 → HS → Option (Int32 × HS)) (hk8 : ∀ (a7 : Int32) (s : HS), k8 a7 s = some (x, t) → Ev DDX12_feed miX12_feed NF (some (.int x)) NF (hp t) 8 NF [(0, .ref 101), (1, .long v1), (3, .long v3), (5, .long v5), (7, .int a7)] [] (hp s)) (hf : f_X12_feed_j93 v1 v3 v5 v7 v10 k8 s = some (x, t)) : Ev DDX12_feed miX12_feed NF (some (.int x)) NF (hp t) 93 NF [(0, .ref 101), (1, .long v1), (3, .long v3), (5, .long v5), (7, .int v7), (10, .int v10)] [] (hp s) := by
  refine e_aload_n dX12_feed_93 0 rfl rfl (pc2 := 94) rfl ?_
  refine e_getR (r := 102) fl_X12_7 dX12_feed_94 so_101 (rs_101_2 s.2.2) (by decide) (pc2 := 97) rfl ?_
  refine e_aload_n dX12_feed_97 0 rfl rfl (pc2 := 98) rfl ?_
  refine e_getI fl_X12_199 dX12_feed_98 so_101 (by decide) (pc2 := 101) rfl ?_
  refine e_iload dX12_feed_101 5 rfl (pc2 := 103) rfl ?_
  obtain ⟨g10, hf⟩ := gd_some hf
  obtain ⟨s9, es9, hf⟩ := ltb_s hf
  refine e_iast dX12_feed_103 sa_102 (inb_v g10) (h2 := hp s9) (by rw [es9]; rfl) (pc2 := 104) rfl ?_
  refine e_aload_n dX12_feed_104 0 rfl rfl (pc2 := 105) rfl ?_
  refine e_dup dX12_feed_105 rfl (pc2 := 106) rfl ?_
  refine e_getI fl_X12_199 dX12_feed_106 so_101 (by decide) (pc2 := 109) rfl ?_
  refine e_iconst (x := 1) dX12_feed_109 (by decide) (pc2 := 110) rfl ?_
  refine e_iadd dX12_feed_110 (pc2 := 111) rfl ?_
  obtain ⟨s11, es11, hf⟩ := ltb_s hf
  refine e_putI fl_X12_199 dX12_feed_111 so_101 fn_11_1 (h2 := hp s11) (by rw [es11]; rfl) (pc2 := 114) rfl ?_
  obtain ⟨x12, ex12, hf⟩ := ltb_s hf
  refine e_iinc dX12_feed_114 4 rfl (c9 := 1) (by decide) ex12.symm (by decide) (ls' := [(0, .ref 101), (1, .long v1), (3, .long v3), (5, .long v5), (7, .int x12)]) [1, 2, 3, 4, 0] rfl (pc2 := 117) rfl ?_
  refine e_goto (tgt := 8) dX12_feed_117 (by decide) ?_
  exact hk8 x12 s11 hf
def f_X12_feed_j39 (v1 : Int64) (v3 : Int64) (v5 : Int64) (v7 : Int32) (w0 : Int64) (k8 : Int32 → HS → Option (Int32 × HS)) (s : HS) : Option (Int32 × HS) :=
  ltb (((((w0.toUInt64 >>> (((56 - (8 * (v7 &&& (7 : Int32)))) : Int32).toInt64.toUInt64 &&& Int64.toUInt64 63)).toInt64) : Int64) &&& (255 : Int64) : Int64).toInt32) fun x5 => (if 1000 ≤ (s.1 101 1) then ltb (v7 + 1) fun x7 => k8 x7 s else (if x5 = 10 then f_X12_feed_j93 v1 v3 v5 v7 x5 k8 s else (if x5 < 32 then ltb (v7 + 1) fun x14 => k8 x14 s else (if 126 < x5 then ltb (v7 + 1) fun x16 => k8 x16 s else f_X12_feed_j93 v1 v3 v5 v7 x5 k8 s))))
set_option maxRecDepth 20000 in
set_option maxHeartbeats 2000000 in
theorem t_X12_feed_j39 (v1 : Int64) (v3 : Int64) (v5 : Int64) (v7 : Int32) (w0 : Int64) (s : HS) {x : Int32} {t : HS} (k8 : Int32 → HS → Option (Int32 × HS)) (hk8 : ∀ (a7 : Int32) (s : HS), k8 a7 s = some (x, t) → Ev DDX12_feed miX12_feed NF (some (.int x)) NF (hp t) 8 NF [(0, .ref 101), (1, .long v1), (3, .long v3), (5, .long v5), (7, .int a7)] [] (hp s)) (hf : f_X12_feed_j39 v1 v3 v5 v7 w0 k8 s = some (x, t)) : Ev DDX12_feed miX12_feed NF (some (.int x)) NF (hp t) 39 NF [(0, .ref 101), (1, .long v1), (3, .long v3), (5, .long v5), (7, .int v7)] [.long w0] (hp s) := by
  refine e_lstore dX12_feed_39 (by decide) rfl (ls' := [(0, .ref 101), (1, .long v1), (3, .long v3), (5, .long v5), (7, .int v7), (8, .long w0)]) [1, 2, 3, 4, 5, 0] rfl (pc2 := 41) rfl ?_
  refine e_lload dX12_feed_41 5 rfl (pc2 := 43) rfl ?_
  refine e_bipush (x := 56) dX12_feed_43 (by decide) (pc2 := 45) rfl ?_
  refine e_bipush (x := 8) dX12_feed_45 (by decide) (pc2 := 47) rfl ?_
  refine e_iload dX12_feed_47 4 rfl (pc2 := 49) rfl ?_
  refine e_bipush (x := 7) dX12_feed_49 (by decide) (pc2 := 51) rfl ?_
  refine e_iand dX12_feed_51 (pc2 := 52) rfl ?_
  refine e_imul dX12_feed_52 (pc2 := 53) rfl ?_
  refine e_isub dX12_feed_53 (pc2 := 54) rfl ?_
  refine e_lushr dX12_feed_54 (pc2 := 55) rfl ?_
  refine e_ldc2 dX12_feed_55 lk_X12_197 (pc2 := 58) rfl ?_
  refine e_land dX12_feed_58 (pc2 := 59) rfl ?_
  refine e_l2i dX12_feed_59 (pc2 := 60) rfl ?_
  obtain ⟨x5, ex5, hf⟩ := ltb_s hf
  refine e_istore dX12_feed_60 (by decide) ex5.symm (ls' := [(0, .ref 101), (1, .long v1), (3, .long v3), (5, .long v5), (7, .int v7), (10, .int x5)]) [1, 2, 3, 4, 5, 0] rfl (pc2 := 62) rfl ?_
  refine e_aload_n dX12_feed_62 0 rfl rfl (pc2 := 63) rfl ?_
  refine e_getI fl_X12_199 dX12_feed_63 so_101 (by decide) (pc2 := 66) rfl ?_
  refine e_sipush (x := 1000) dX12_feed_66 (by decide) (pc2 := 69) rfl ?_
  refine e_icmp_ge (tgt := 114) dX12_feed_69 (by decide) (pc2 := 72) rfl (fun c6 => ?_) (fun c6 => ?_)
  · have hf := if_t c6 hf
    obtain ⟨x7, ex7, hf⟩ := ltb_s hf
    refine e_iinc dX12_feed_114 4 rfl (c9 := 1) (by decide) ex7.symm (by decide) (ls' := [(0, .ref 101), (1, .long v1), (3, .long v3), (5, .long v5), (7, .int x7)]) [1, 2, 3, 4, 0] rfl (pc2 := 117) rfl ?_
    refine e_goto (tgt := 8) dX12_feed_117 (by decide) ?_
    exact hk8 x7 s hf
  · have hf := if_f c6 hf
    refine e_iload dX12_feed_72 5 rfl (pc2 := 74) rfl ?_
    refine e_bipush (x := 10) dX12_feed_74 (by decide) (pc2 := 76) rfl ?_
    refine e_icmp_eq (tgt := 93) dX12_feed_76 (by decide) (pc2 := 79) rfl (fun c8 => ?_) (fun c8 => ?_)
    · have hf := if_t c8 hf
      exact t_X12_feed_j93 v1 v3 v5 v7 x5 s _ hk8 hf
    · have hf := if_f c8 hf
      refine e_iload dX12_feed_79 5 rfl (pc2 := 81) rfl ?_
      refine e_bipush (x := 32) dX12_feed_81 (by decide) (pc2 := 83) rfl ?_
      refine e_icmp_lt (tgt := 114) dX12_feed_83 (by decide) (pc2 := 86) rfl (fun c13 => ?_) (fun c13 => ?_)
      · have hf := if_t c13 hf
        obtain ⟨x14, ex14, hf⟩ := ltb_s hf
        refine e_iinc dX12_feed_114 4 rfl (c9 := 1) (by decide) ex14.symm (by decide) (ls' := [(0, .ref 101), (1, .long v1), (3, .long v3), (5, .long v5), (7, .int x14)]) [1, 2, 3, 4, 0] rfl (pc2 := 117) rfl ?_
        refine e_goto (tgt := 8) dX12_feed_117 (by decide) ?_
        exact hk8 x14 s hf
      · have hf := if_f c13 hf
        refine e_iload dX12_feed_86 5 rfl (pc2 := 88) rfl ?_
        refine e_bipush (x := 126) dX12_feed_88 (by decide) (pc2 := 90) rfl ?_
        refine e_icmp_gt (tgt := 114) dX12_feed_90 (by decide) (pc2 := 93) rfl (fun c15 => ?_) (fun c15 => ?_)
        · have hf := if_t c15 hf
          obtain ⟨x16, ex16, hf⟩ := ltb_s hf
          refine e_iinc dX12_feed_114 4 rfl (c9 := 1) (by decide) ex16.symm (by decide) (ls' := [(0, .ref 101), (1, .long v1), (3, .long v3), (5, .long v5), (7, .int x16)]) [1, 2, 3, 4, 0] rfl (pc2 := 117) rfl ?_
          refine e_goto (tgt := 8) dX12_feed_117 (by decide) ?_
          exact hk8 x16 s hf
        · have hf := if_f c15 hf
          exact t_X12_feed_j93 v1 v3 v5 v7 x5 s _ hk8 hf
def f_X12_feed_l8b (v1 : Int64) (v3 : Int64) (v5 : Int64) (v7 : Int32) (k8 : Int32 → HS → Option (Int32 × HS)) (s : HS) : Option (Int32 × HS) :=
  (if 24 ≤ v7 then some (s.1 101 1, s) else (if 8 ≤ v7 then (if 16 ≤ v7 then f_X12_feed_j39 v1 v3 v5 v7 v5 k8 s else f_X12_feed_j39 v1 v3 v5 v7 v3 k8 s) else f_X12_feed_j39 v1 v3 v5 v7 v1 k8 s))
set_option maxRecDepth 20000 in
set_option maxHeartbeats 2000000 in
theorem t_X12_feed_l8b (v1 : Int64) (v3 : Int64) (v5 : Int64) (v7 : Int32) (s : HS) {x : Int32} {t : HS} (k8 : Int32 → HS → Option (Int32 × HS)) (hk8 : ∀ (a7 : Int32) (s : HS), k8 a7 s = some (x, t) → Ev DDX12_feed miX12_feed NF (some (.int x)) NF (hp t) 8 NF [(0, .ref 101), (1, .long v1), (3, .long v3), (5, .long v5), (7, .int a7)] [] (hp s)) (hf : f_X12_feed_l8b v1 v3 v5 v7 k8 s = some (x, t)) : Ev DDX12_feed miX12_feed NF (some (.int x)) NF (hp t) 8 NF [(0, .ref 101), (1, .long v1), (3, .long v3), (5, .long v5), (7, .int v7)] [] (hp s) := by
  refine e_iload dX12_feed_8 4 rfl (pc2 := 10) rfl ?_
  refine e_bipush (x := 24) dX12_feed_10 (by decide) (pc2 := 12) rfl ?_
  refine e_icmp_ge (tgt := 120) dX12_feed_12 (by decide) (pc2 := 15) rfl (fun c2 => ?_) (fun c2 => ?_)
  · have hf := if_t c2 hf
    refine e_aload_n dX12_feed_120 0 rfl rfl (pc2 := 121) rfl ?_
    refine e_getI fl_X12_199 dX12_feed_121 so_101 (by decide) (pc2 := 124) rfl ?_
    cases hf
    exact e_iret rfl dX12_feed_124
  · have hf := if_f c2 hf
    refine e_iload dX12_feed_15 4 rfl (pc2 := 17) rfl ?_
    refine e_bipush (x := 8) dX12_feed_17 (by decide) (pc2 := 19) rfl ?_
    refine e_icmp_ge (tgt := 26) dX12_feed_19 (by decide) (pc2 := 22) rfl (fun c3 => ?_) (fun c3 => ?_)
    · have hf := if_t c3 hf
      refine e_iload dX12_feed_26 4 rfl (pc2 := 28) rfl ?_
      refine e_bipush (x := 16) dX12_feed_28 (by decide) (pc2 := 30) rfl ?_
      refine e_icmp_ge (tgt := 37) dX12_feed_30 (by decide) (pc2 := 33) rfl (fun c4 => ?_) (fun c4 => ?_)
      · have hf := if_t c4 hf
        refine e_lload dX12_feed_37 3 rfl (pc2 := 39) rfl ?_
        exact t_X12_feed_j39 v1 v3 v5 v7 v5 s _ hk8 hf
      · have hf := if_f c4 hf
        refine e_lload_n dX12_feed_33 2 rfl rfl (pc2 := 34) rfl ?_
        refine e_goto (tgt := 39) dX12_feed_34 (by decide) ?_
        exact t_X12_feed_j39 v1 v3 v5 v7 v3 s _ hk8 hf
    · have hf := if_f c3 hf
      refine e_lload_n dX12_feed_22 1 rfl rfl (pc2 := 23) rfl ?_
      refine e_goto (tgt := 39) dX12_feed_23 (by decide) ?_
      exact t_X12_feed_j39 v1 v3 v5 v7 v1 s _ hk8 hf
def f_X12_feed_l8 (v1 : Int64) (v3 : Int64) (v5 : Int64) : Nat → Int32 → HS → Option (Int32 × HS)
  | 0, _, _ => none
  | n + 1, v7, s => f_X12_feed_l8b v1 v3 v5 v7 (f_X12_feed_l8 v1 v3 v5 n)  s
set_option maxRecDepth 20000 in
set_option maxHeartbeats 2000000 in
theorem t_X12_feed_l8 (v1 : Int64) (v3 : Int64) (v5 : Int64) {x : Int32} {t : HS}  : ∀ (n : Nat) (v7 : Int32) (s : HS), f_X12_feed_l8 v1 v3 v5 n v7 s = some (x, t) → Ev DDX12_feed miX12_feed NF (some (.int x)) NF (hp t) 8 NF [(0, .ref 101), (1, .long v1), (3, .long v3), (5, .long v5), (7, .int v7)] [] (hp s) := by
  intro n
  induction n with
  | zero =>
    intro v7 s hf
    have hf : none = some (x, t) := hf
    cases hf
  | succ n ih =>
    intro v7 s hf
    exact t_X12_feed_l8b v1 v3 v5 v7  s _ ih  hf
def f_X12_feed (v1 : Int64) (v3 : Int64) (v5 : Int64) (s : HS) : Option (Int32 × HS) :=
  ltb (sI s 101 0 0) fun s1 => f_X12_feed_l8 v1 v3 v5 FU 0 s1
set_option maxRecDepth 20000 in
set_option maxHeartbeats 2000000 in
theorem t_X12_feed (v1 : Int64) (v3 : Int64) (v5 : Int64) (s : HS) {x : Int32} {t : HS} (hf : f_X12_feed v1 v3 v5 s = some (x, t)) : Mt DDX12_feed miX12_feed [.ref 101, .long v1, .long v3, .long v5] NF (hp s) (some (.int x)) NF (hp t) := by
  refine Mt.of (by decide +kernel) (Nat.le_refl _) (Nat.le_of_ble_eq_true rfl) ?_
  show Ev DDX12_feed miX12_feed NF (some (.int x)) NF (hp t) 0 NF [(0, .ref 101), (1, .long v1), (3, .long v3), (5, .long v5)] [] (hp s)
  unfold f_X12_feed at hf
  refine e_aload_n dX12_feed_0 0 rfl rfl (pc2 := 1) rfl ?_
  refine e_iconst (x := 0) dX12_feed_1 (by decide) (pc2 := 2) rfl ?_
  obtain ⟨s1, es1, hf⟩ := ltb_s hf
  refine e_putI fl_X12_194 dX12_feed_2 so_101 fn_11_0 (h2 := hp s1) (by rw [es1]; rfl) (pc2 := 5) rfl ?_
  refine e_iconst (x := 0) dX12_feed_5 (by decide) (pc2 := 6) rfl ?_
  refine e_istore dX12_feed_6 (by decide) rfl (ls' := [(0, .ref 101), (1, .long v1), (3, .long v3), (5, .long v5), (7, .int 0)]) [1, 2, 3, 4, 0] rfl (pc2 := 8) rfl ?_
  refine t_X12_feed_l8 v1 v3 v5 FU 0 s1 hf
abbrev DDX12_signAt : Nat := 1
def f_X12_signAt (v1 : Int32) (s : HS) : Option Int32 :=
  (if (s.1 101 3) ≤ v1 then some 0 else gd (inb v1 1000) (some (s.1 102 v1.toNatClampNeg)))
set_option maxRecDepth 20000 in
set_option maxHeartbeats 2000000 in
theorem t_X12_signAt (v1 : Int32) (s : HS) {x : Int32} (hf : f_X12_signAt v1 s = some x) : Mt DDX12_signAt miX12_signAt [.ref 101, .int v1] NF (hp s) (some (.int x)) NF (hp s) := by
  refine Mt.of (by decide +kernel) (Nat.le_refl _) (Nat.le_of_ble_eq_true rfl) ?_
  show Ev DDX12_signAt miX12_signAt NF (some (.int x)) NF (hp s) 0 NF [(0, .ref 101), (1, .int v1)] [] (hp s)
  unfold f_X12_signAt at hf
  refine e_iload_n dX12_signAt_0 1 rfl rfl (pc2 := 1) rfl ?_
  refine e_aload_n dX12_signAt_1 0 rfl rfl (pc2 := 2) rfl ?_
  refine e_getI fl_X12_202 dX12_signAt_2 so_101 (by decide) (pc2 := 5) rfl ?_
  refine e_icmp_ge (tgt := 17) dX12_signAt_5 (by decide) (pc2 := 8) rfl (fun c1 => ?_) (fun c1 => ?_)
  · have hf := if_t c1 hf
    refine e_iconst (x := 0) dX12_signAt_17 (by decide) (pc2 := 18) rfl ?_
    cases hf
    exact e_iret rfl dX12_signAt_18
  · have hf := if_f c1 hf
    refine e_aload_n dX12_signAt_8 0 rfl rfl (pc2 := 9) rfl ?_
    refine e_getR (r := 102) fl_X12_7 dX12_signAt_9 so_101 (rs_101_2 s.2.2) (by decide) (pc2 := 12) rfl ?_
    refine e_iload_n dX12_signAt_12 1 rfl rfl (pc2 := 13) rfl ?_
    obtain ⟨g2, hf⟩ := gd_some hf
    refine e_iald dX12_signAt_13 sa_102 (inb_v g2) (pc2 := 14) rfl ?_
    refine e_goto (tgt := 18) dX12_signAt_14 (by decide) ?_
    cases hf
    exact e_iret rfl dX12_signAt_18
abbrev DDX12_nextToken : Nat := 2
def f_X12_nextToken_j39 (k0 : HS → Option HS) (s : HS) : Option HS :=
  ltb (sI s 101 4 ((s.1 101 4) + 1)) fun s4 => k0 s4
set_option maxRecDepth 20000 in
set_option maxHeartbeats 2000000 in
theorem t_X12_nextToken_j39  (s : HS) {t : HS} (k0 : HS → Option HS) (hk0 : ∀ (s : HS), k0 s = some t → Ev DDX12_nextToken miX12_nextToken NF none NF (hp t) 0 NF [(0, .ref 101)] [] (hp s)) (hf : f_X12_nextToken_j39 k0 s = some t) : Ev DDX12_nextToken miX12_nextToken NF none NF (hp t) 39 NF [(0, .ref 101)] [] (hp s) := by
  refine e_aload_n dX12_nextToken_39 0 rfl rfl (pc2 := 40) rfl ?_
  refine e_dup dX12_nextToken_40 rfl (pc2 := 41) rfl ?_
  refine e_getI fl_X12_205 dX12_nextToken_41 so_101 (by decide) (pc2 := 44) rfl ?_
  refine e_iconst (x := 1) dX12_nextToken_44 (by decide) (pc2 := 45) rfl ?_
  refine e_iadd dX12_nextToken_45 (pc2 := 46) rfl ?_
  obtain ⟨s4, es4, hf⟩ := ltb_s hf
  refine e_putI fl_X12_205 dX12_nextToken_46 so_101 fn_11_4 (h2 := hp s4) (by rw [es4]; rfl) (pc2 := 49) rfl ?_
  refine e_goto (tgt := 0) dX12_nextToken_49 (by decide) ?_
  exact hk0 s4 hf
def f_X12_nextToken_l0b (k0 : HS → Option HS) (k52 : HS → Option HS) (s : HS) : Option HS :=
  (if (s.1 101 3) ≤ (s.1 101 4) then k52 s else gd (inb (s.1 101 4) 1000) ((if (s.1 102 (s.1 101 4).toNatClampNeg) = 32 then f_X12_nextToken_j39 k0 s else gd (inb (s.1 101 4) 1000) ((if (s.1 102 (s.1 101 4).toNatClampNeg) = 10 then f_X12_nextToken_j39 k0 s else k52 s)))))
set_option maxRecDepth 20000 in
set_option maxHeartbeats 2000000 in
theorem t_X12_nextToken_l0b  (s : HS) {t : HS} (k0 : HS → Option HS) (hk0 : ∀ (s : HS), k0 s = some t → Ev DDX12_nextToken miX12_nextToken NF none NF (hp t) 0 NF [(0, .ref 101)] [] (hp s)) (k52 : HS → Option HS) (hk52 : ∀ (s : HS), k52 s = some t → Ev DDX12_nextToken miX12_nextToken NF none NF (hp t) 52 NF [(0, .ref 101)] [] (hp s)) (hf : f_X12_nextToken_l0b k0 k52 s = some t) : Ev DDX12_nextToken miX12_nextToken NF none NF (hp t) 0 NF [(0, .ref 101)] [] (hp s) := by
  refine e_aload_n dX12_nextToken_0 0 rfl rfl (pc2 := 1) rfl ?_
  refine e_getI fl_X12_205 dX12_nextToken_1 so_101 (by decide) (pc2 := 4) rfl ?_
  refine e_aload_n dX12_nextToken_4 0 rfl rfl (pc2 := 5) rfl ?_
  refine e_getI fl_X12_202 dX12_nextToken_5 so_101 (by decide) (pc2 := 8) rfl ?_
  refine e_icmp_ge (tgt := 52) dX12_nextToken_8 (by decide) (pc2 := 11) rfl (fun c1 => ?_) (fun c1 => ?_)
  · have hf := if_t c1 hf
    exact hk52 s hf
  · have hf := if_f c1 hf
    refine e_aload_n dX12_nextToken_11 0 rfl rfl (pc2 := 12) rfl ?_
    refine e_getR (r := 102) fl_X12_7 dX12_nextToken_12 so_101 (rs_101_2 s.2.2) (by decide) (pc2 := 15) rfl ?_
    refine e_aload_n dX12_nextToken_15 0 rfl rfl (pc2 := 16) rfl ?_
    refine e_getI fl_X12_205 dX12_nextToken_16 so_101 (by decide) (pc2 := 19) rfl ?_
    obtain ⟨g2, hf⟩ := gd_some hf
    refine e_iald dX12_nextToken_19 sa_102 (inb_v g2) (pc2 := 20) rfl ?_
    refine e_bipush (x := 32) dX12_nextToken_20 (by decide) (pc2 := 22) rfl ?_
    refine e_icmp_eq (tgt := 39) dX12_nextToken_22 (by decide) (pc2 := 25) rfl (fun c3 => ?_) (fun c3 => ?_)
    · have hf := if_t c3 hf
      exact t_X12_nextToken_j39 s _ hk0 hf
    · have hf := if_f c3 hf
      refine e_aload_n dX12_nextToken_25 0 rfl rfl (pc2 := 26) rfl ?_
      refine e_getR (r := 102) fl_X12_7 dX12_nextToken_26 so_101 (rs_101_2 s.2.2) (by decide) (pc2 := 29) rfl ?_
      refine e_aload_n dX12_nextToken_29 0 rfl rfl (pc2 := 30) rfl ?_
      refine e_getI fl_X12_205 dX12_nextToken_30 so_101 (by decide) (pc2 := 33) rfl ?_
      obtain ⟨g5, hf⟩ := gd_some hf
      refine e_iald dX12_nextToken_33 sa_102 (inb_v g5) (pc2 := 34) rfl ?_
      refine e_bipush (x := 10) dX12_nextToken_34 (by decide) (pc2 := 36) rfl ?_
      refine e_icmp_ne (tgt := 52) dX12_nextToken_36 (by decide) (pc2 := 39) rfl (fun c6 => ?_) (fun c6 => ?_)
      · have hf := if_f c6 hf
        exact hk52 s hf
      · have hf := if_t c6 hf
        exact t_X12_nextToken_j39 s _ hk0 hf
def f_X12_nextToken_l0 (k52 : HS → Option HS) : Nat → HS → Option HS
  | 0, _ => none
  | n + 1, s => f_X12_nextToken_l0b  (f_X12_nextToken_l0 k52 n) k52 s
set_option maxRecDepth 20000 in
set_option maxHeartbeats 2000000 in
theorem t_X12_nextToken_l0  {t : HS} (k52 : HS → Option HS) (hk52 : ∀ (s : HS), k52 s = some t → Ev DDX12_nextToken miX12_nextToken NF none NF (hp t) 52 NF [(0, .ref 101)] [] (hp s)) : ∀ (n : Nat)  (s : HS), f_X12_nextToken_l0 k52 n s = some t → Ev DDX12_nextToken miX12_nextToken NF none NF (hp t) 0 NF [(0, .ref 101)] [] (hp s) := by
  intro n
  induction n with
  | zero =>
    intro s hf
    have hf : none = some t := hf
    cases hf
  | succ n ih =>
    intro s hf
    exact t_X12_nextToken_l0b   s _ ih _ hk52 hf
def f_X12_nextToken_j345 (v1 : Int32) (s : HS) : Option HS :=
  (if v1 = 45 then ltb (sI s 101 6 3) fun s19 => some s19 else (if v1 < 59 then ltb (sI s 101 6 4) fun s21 => some s21 else (if 61 < v1 then ltb (sI s 101 6 4) fun s23 => some s23 else ltb (sI s 101 6 3) fun s24 => some s24)))
set_option maxRecDepth 20000 in
set_option maxHeartbeats 2000000 in
theorem t_X12_nextToken_j345 (v1 : Int32) (s : HS) {t : HS}  (hf : f_X12_nextToken_j345 v1 s = some t) : Ev DDX12_nextToken miX12_nextToken NF none NF (hp t) 345 NF [(1, .int v1)] [.ref 101] (hp s) := by
  refine e_iload_n dX12_nextToken_345 0 rfl rfl (pc2 := 346) rfl ?_
  refine e_bipush (x := 45) dX12_nextToken_346 (by decide) (pc2 := 348) rfl ?_
  refine e_icmp_eq (tgt := 363) dX12_nextToken_348 (by decide) (pc2 := 351) rfl (fun c18 => ?_) (fun c18 => ?_)
  · have hf := if_t c18 hf
    refine e_iconst (x := 3) dX12_nextToken_363 (by decide) (pc2 := 364) rfl ?_
    refine e_goto (tgt := 368) dX12_nextToken_364 (by decide) ?_
    obtain ⟨s19, es19, hf⟩ := ltb_s hf
    refine e_putI fl_X12_218 dX12_nextToken_368 so_101 fn_11_6 (h2 := hp s19) (by rw [es19]; rfl) (pc2 := 371) rfl ?_
    cases hf
    exact e_vret rfl dX12_nextToken_371
  · have hf := if_f c18 hf
    refine e_iload_n dX12_nextToken_351 0 rfl rfl (pc2 := 352) rfl ?_
    refine e_bipush (x := 59) dX12_nextToken_352 (by decide) (pc2 := 354) rfl ?_
    refine e_icmp_lt (tgt := 367) dX12_nextToken_354 (by decide) (pc2 := 357) rfl (fun c20 => ?_) (fun c20 => ?_)
    · have hf := if_t c20 hf
      refine e_iconst (x := 4) dX12_nextToken_367 (by decide) (pc2 := 368) rfl ?_
      obtain ⟨s21, es21, hf⟩ := ltb_s hf
      refine e_putI fl_X12_218 dX12_nextToken_368 so_101 fn_11_6 (h2 := hp s21) (by rw [es21]; rfl) (pc2 := 371) rfl ?_
      cases hf
      exact e_vret rfl dX12_nextToken_371
    · have hf := if_f c20 hf
      refine e_iload_n dX12_nextToken_357 0 rfl rfl (pc2 := 358) rfl ?_
      refine e_bipush (x := 61) dX12_nextToken_358 (by decide) (pc2 := 360) rfl ?_
      refine e_icmp_gt (tgt := 367) dX12_nextToken_360 (by decide) (pc2 := 363) rfl (fun c22 => ?_) (fun c22 => ?_)
      · have hf := if_t c22 hf
        refine e_iconst (x := 4) dX12_nextToken_367 (by decide) (pc2 := 368) rfl ?_
        obtain ⟨s23, es23, hf⟩ := ltb_s hf
        refine e_putI fl_X12_218 dX12_nextToken_368 so_101 fn_11_6 (h2 := hp s23) (by rw [es23]; rfl) (pc2 := 371) rfl ?_
        cases hf
        exact e_vret rfl dX12_nextToken_371
      · have hf := if_f c22 hf
        refine e_iconst (x := 3) dX12_nextToken_363 (by decide) (pc2 := 364) rfl ?_
        refine e_goto (tgt := 368) dX12_nextToken_364 (by decide) ?_
        obtain ⟨s24, es24, hf⟩ := ltb_s hf
        refine e_putI fl_X12_218 dX12_nextToken_368 so_101 fn_11_6 (h2 := hp s24) (by rw [es24]; rfl) (pc2 := 371) rfl ?_
        cases hf
        exact e_vret rfl dX12_nextToken_371
def f_X12_nextToken_j322 (v1 : Int32) (s : HS) : Option HS :=
  ltb (sI s 101 4 ((s.1 101 4) + 1)) fun s16 => (if v1 < 40 then f_X12_nextToken_j345 v1 s16 else (if v1 ≤ 43 then ltb (sI s16 101 6 3) fun s26 => some s26 else f_X12_nextToken_j345 v1 s16))
set_option maxRecDepth 20000 in
set_option maxHeartbeats 2000000 in
theorem t_X12_nextToken_j322 (v1 : Int32) (s : HS) {t : HS}  (hf : f_X12_nextToken_j322 v1 s = some t) : Ev DDX12_nextToken miX12_nextToken NF none NF (hp t) 322 NF [(0, .ref 101), (1, .int v1)] [] (hp s) := by
  refine e_aload_n dX12_nextToken_322 0 rfl rfl (pc2 := 323) rfl ?_
  refine e_dup dX12_nextToken_323 rfl (pc2 := 324) rfl ?_
  refine e_getI fl_X12_205 dX12_nextToken_324 so_101 (by decide) (pc2 := 327) rfl ?_
  refine e_iconst (x := 1) dX12_nextToken_327 (by decide) (pc2 := 328) rfl ?_
  refine e_iadd dX12_nextToken_328 (pc2 := 329) rfl ?_
  obtain ⟨s16, es16, hf⟩ := ltb_s hf
  refine e_putI fl_X12_205 dX12_nextToken_329 so_101 fn_11_4 (h2 := hp s16) (by rw [es16]; rfl) (pc2 := 332) rfl ?_
  refine e_aload_n dX12_nextToken_332 0 rfl rfl (pc2 := 333) rfl ?_
  refine e_iload_n dX12_nextToken_333 1 rfl rfl (pc2 := 334) rfl ?_
  refine e_bipush (x := 40) dX12_nextToken_334 (by decide) (pc2 := 336) rfl ?_
  refine e_icmp_lt (tgt := 345) dX12_nextToken_336 (by decide) (pc2 := 339) rfl (fun c17 => ?_) (fun c17 => ?_)
  · have hf := if_t c17 hf
    refine ev_sub [1] rfl ?_
    exact t_X12_nextToken_j345 v1 s16 hf
  · have hf := if_f c17 hf
    refine e_iload_n dX12_nextToken_339 1 rfl rfl (pc2 := 340) rfl ?_
    refine e_bipush (x := 43) dX12_nextToken_340 (by decide) (pc2 := 342) rfl ?_
    refine e_icmp_le (tgt := 363) dX12_nextToken_342 (by decide) (pc2 := 345) rfl (fun c25 => ?_) (fun c25 => ?_)
    · have hf := if_t c25 hf
      refine e_iconst (x := 3) dX12_nextToken_363 (by decide) (pc2 := 364) rfl ?_
      refine e_goto (tgt := 368) dX12_nextToken_364 (by decide) ?_
      obtain ⟨s26, es26, hf⟩ := ltb_s hf
      refine e_putI fl_X12_218 dX12_nextToken_368 so_101 fn_11_6 (h2 := hp s26) (by rw [es26]; rfl) (pc2 := 371) rfl ?_
      cases hf
      exact e_vret rfl dX12_nextToken_371
    · have hf := if_f c25 hf
      refine ev_sub [1] rfl ?_
      exact t_X12_nextToken_j345 v1 s16 hf
def f_X12_nextToken_j286 (k224 : HS → Option HS) (s : HS) : Option HS :=
  ltb (sI s 101 4 ((s.1 101 4) + 1)) fun s33 => k224 s33
set_option maxRecDepth 20000 in
set_option maxHeartbeats 2000000 in
theorem t_X12_nextToken_j286  (s : HS) {t : HS} (k224 : HS → Option HS) (hk224 : ∀ (s : HS), k224 s = some t → Ev DDX12_nextToken miX12_nextToken NF none NF (hp t) 224 NF [(0, .ref 101)] [] (hp s)) (hf : f_X12_nextToken_j286 k224 s = some t) : Ev DDX12_nextToken miX12_nextToken NF none NF (hp t) 286 NF [(0, .ref 101)] [] (hp s) := by
  refine e_aload_n dX12_nextToken_286 0 rfl rfl (pc2 := 287) rfl ?_
  refine e_dup dX12_nextToken_287 rfl (pc2 := 288) rfl ?_
  refine e_getI fl_X12_205 dX12_nextToken_288 so_101 (by decide) (pc2 := 291) rfl ?_
  refine e_iconst (x := 1) dX12_nextToken_291 (by decide) (pc2 := 292) rfl ?_
  refine e_iadd dX12_nextToken_292 (pc2 := 293) rfl ?_
  obtain ⟨s33, es33, hf⟩ := ltb_s hf
  refine e_putI fl_X12_205 dX12_nextToken_293 so_101 fn_11_4 (h2 := hp s33) (by rw [es33]; rfl) (pc2 := 296) rfl ?_
  refine e_goto (tgt := 224) dX12_nextToken_296 (by decide) ?_
  exact hk224 s33 hf
def f_X12_nextToken_l224b (k224 : HS → Option HS) (k299 : HS → Option HS) (s : HS) : Option HS :=
  bnd (f_X12_signAt (s.1 101 4) s) fun y28 => (if y28 < 48 then k299 s else bnd (f_X12_signAt (s.1 101 4) s) fun y30 => (if 57 < y30 then k299 s else (if 4 ≤ ((s.1 101 4) - (s.1 101 5)) then f_X12_nextToken_j286 k224 s else bnd (f_X12_signAt (s.1 101 4) s) fun y34 => ltb (sI s 101 8 ((((s.1 101 8) * 10) + y34) - 48)) fun s35 => f_X12_nextToken_j286 k224 s35)))
set_option maxRecDepth 20000 in
set_option maxHeartbeats 2000000 in
theorem t_X12_nextToken_l224b  (s : HS) {t : HS} (k224 : HS → Option HS) (hk224 : ∀ (s : HS), k224 s = some t → Ev DDX12_nextToken miX12_nextToken NF none NF (hp t) 224 NF [(0, .ref 101)] [] (hp s)) (k299 : HS → Option HS) (hk299 : ∀ (s : HS), k299 s = some t → Ev DDX12_nextToken miX12_nextToken NF none NF (hp t) 299 NF [(0, .ref 101)] [] (hp s)) (hf : f_X12_nextToken_l224b k224 k299 s = some t) : Ev DDX12_nextToken miX12_nextToken NF none NF (hp t) 224 NF [(0, .ref 101)] [] (hp s) := by
  refine e_aload_n dX12_nextToken_224 0 rfl rfl (pc2 := 225) rfl ?_
  refine e_aload_n dX12_nextToken_225 0 rfl rfl (pc2 := 226) rfl ?_
  refine e_getI fl_X12_205 dX12_nextToken_226 so_101 (by decide) (pc2 := 229) rfl ?_
  obtain ⟨y28, hy28, hf⟩ := bnd_s hf
  refine e_callVs (t_X12_signAt (s.1 101 4) s hy28) dX12_nextToken_229 cv_X12_221 rfl so_101 rc_11 (by decide) (by first | exact Nat.le_of_ble_eq_true rfl | simp [rva_cat, vc_i, vc_r, vc_l, vc_n]) nn0 rfl (pc2 := 232) rfl ?_
  refine e_bipush (x := 48) dX12_nextToken_232 (by decide) (pc2 := 234) rfl ?_
  refine e_icmp_lt (tgt := 299) dX12_nextToken_234 (by decide) (pc2 := 237) rfl (fun c29 => ?_) (fun c29 => ?_)
  · have hf := if_t c29 hf
    exact hk299 s hf
  · have hf := if_f c29 hf
    refine e_aload_n dX12_nextToken_237 0 rfl rfl (pc2 := 238) rfl ?_
    refine e_aload_n dX12_nextToken_238 0 rfl rfl (pc2 := 239) rfl ?_
    refine e_getI fl_X12_205 dX12_nextToken_239 so_101 (by decide) (pc2 := 242) rfl ?_
    obtain ⟨y30, hy30, hf⟩ := bnd_s hf
    refine e_callVs (t_X12_signAt (s.1 101 4) s hy30) dX12_nextToken_242 cv_X12_221 rfl so_101 rc_11 (by decide) (by first | exact Nat.le_of_ble_eq_true rfl | simp [rva_cat, vc_i, vc_r, vc_l, vc_n]) nn0 rfl (pc2 := 245) rfl ?_
    refine e_bipush (x := 57) dX12_nextToken_245 (by decide) (pc2 := 247) rfl ?_
    refine e_icmp_gt (tgt := 299) dX12_nextToken_247 (by decide) (pc2 := 250) rfl (fun c31 => ?_) (fun c31 => ?_)
    · have hf := if_t c31 hf
      exact hk299 s hf
    · have hf := if_f c31 hf
      refine e_aload_n dX12_nextToken_250 0 rfl rfl (pc2 := 251) rfl ?_
      refine e_getI fl_X12_205 dX12_nextToken_251 so_101 (by decide) (pc2 := 254) rfl ?_
      refine e_aload_n dX12_nextToken_254 0 rfl rfl (pc2 := 255) rfl ?_
      refine e_getI fl_X12_208 dX12_nextToken_255 so_101 (by decide) (pc2 := 258) rfl ?_
      refine e_isub dX12_nextToken_258 (pc2 := 259) rfl ?_
      refine e_iconst (x := 4) dX12_nextToken_259 (by decide) (pc2 := 260) rfl ?_
      refine e_icmp_ge (tgt := 286) dX12_nextToken_260 (by decide) (pc2 := 263) rfl (fun c32 => ?_) (fun c32 => ?_)
      · have hf := if_t c32 hf
        exact t_X12_nextToken_j286 s _ hk224 hf
      · have hf := if_f c32 hf
        refine e_aload_n dX12_nextToken_263 0 rfl rfl (pc2 := 264) rfl ?_
        refine e_aload_n dX12_nextToken_264 0 rfl rfl (pc2 := 265) rfl ?_
        refine e_getI fl_X12_215 dX12_nextToken_265 so_101 (by decide) (pc2 := 268) rfl ?_
        refine e_bipush (x := 10) dX12_nextToken_268 (by decide) (pc2 := 270) rfl ?_
        refine e_imul dX12_nextToken_270 (pc2 := 271) rfl ?_
        refine e_aload_n dX12_nextToken_271 0 rfl rfl (pc2 := 272) rfl ?_
        refine e_aload_n dX12_nextToken_272 0 rfl rfl (pc2 := 273) rfl ?_
        refine e_getI fl_X12_205 dX12_nextToken_273 so_101 (by decide) (pc2 := 276) rfl ?_
        obtain ⟨y34, hy34, hf⟩ := bnd_s hf
        refine e_callVs (t_X12_signAt (s.1 101 4) s hy34) dX12_nextToken_276 cv_X12_221 rfl so_101 rc_11 (by decide) (by first | exact Nat.le_of_ble_eq_true rfl | simp [rva_cat, vc_i, vc_r, vc_l, vc_n]) nn0 rfl (pc2 := 279) rfl ?_
        refine e_iadd dX12_nextToken_279 (pc2 := 280) rfl ?_
        refine e_bipush (x := 48) dX12_nextToken_280 (by decide) (pc2 := 282) rfl ?_
        refine e_isub dX12_nextToken_282 (pc2 := 283) rfl ?_
        obtain ⟨s35, es35, hf⟩ := ltb_s hf
        refine e_putI fl_X12_215 dX12_nextToken_283 so_101 fn_11_8 (h2 := hp s35) (by rw [es35]; rfl) (pc2 := 286) rfl ?_
        exact t_X12_nextToken_j286 s35 _ hk224 hf
def f_X12_nextToken_l224 (k299 : HS → Option HS) : Nat → HS → Option HS
  | 0, _ => none
  | n + 1, s => f_X12_nextToken_l224b  (f_X12_nextToken_l224 k299 n) k299 s
set_option maxRecDepth 20000 in
set_option maxHeartbeats 2000000 in
theorem t_X12_nextToken_l224  {t : HS} (k299 : HS → Option HS) (hk299 : ∀ (s : HS), k299 s = some t → Ev DDX12_nextToken miX12_nextToken NF none NF (hp t) 299 NF [(0, .ref 101)] [] (hp s)) : ∀ (n : Nat)  (s : HS), f_X12_nextToken_l224 k299 n s = some t → Ev DDX12_nextToken miX12_nextToken NF none NF (hp t) 224 NF [(0, .ref 101)] [] (hp s) := by
  intro n
  induction n with
  | zero =>
    intro s hf
    have hf : none = some t := hf
    cases hf
  | succ n ih =>
    intro s hf
    exact t_X12_nextToken_l224b   s _ ih _ hk299 hf
def f_X12_nextToken_j299  (s : HS) : Option HS :=
  (if ((s.1 101 4) - (s.1 101 5)) ≤ 4 then ltb (sI s 101 6 2) fun s38 => some s38 else ltb (sI s 101 6 4) fun s39 => some s39)
set_option maxRecDepth 20000 in
set_option maxHeartbeats 2000000 in
theorem t_X12_nextToken_j299  (s : HS) {t : HS}  (hf : f_X12_nextToken_j299 s = some t) : Ev DDX12_nextToken miX12_nextToken NF none NF (hp t) 299 NF [(0, .ref 101)] [] (hp s) := by
  refine e_aload_n dX12_nextToken_299 0 rfl rfl (pc2 := 300) rfl ?_
  refine e_aload_n dX12_nextToken_300 0 rfl rfl (pc2 := 301) rfl ?_
  refine e_getI fl_X12_205 dX12_nextToken_301 so_101 (by decide) (pc2 := 304) rfl ?_
  refine e_aload_n dX12_nextToken_304 0 rfl rfl (pc2 := 305) rfl ?_
  refine e_getI fl_X12_208 dX12_nextToken_305 so_101 (by decide) (pc2 := 308) rfl ?_
  refine e_isub dX12_nextToken_308 (pc2 := 309) rfl ?_
  refine e_iconst (x := 4) dX12_nextToken_309 (by decide) (pc2 := 310) rfl ?_
  refine e_icmp_le (tgt := 317) dX12_nextToken_310 (by decide) (pc2 := 313) rfl (fun c37 => ?_) (fun c37 => ?_)
  · have hf := if_t c37 hf
    refine e_iconst (x := 2) dX12_nextToken_317 (by decide) (pc2 := 318) rfl ?_
    obtain ⟨s38, es38, hf⟩ := ltb_s hf
    refine e_putI fl_X12_218 dX12_nextToken_318 so_101 fn_11_6 (h2 := hp s38) (by rw [es38]; rfl) (pc2 := 321) rfl ?_
    cases hf
    exact e_vret rfl dX12_nextToken_321
  · have hf := if_f c37 hf
    refine e_iconst (x := 4) dX12_nextToken_313 (by decide) (pc2 := 314) rfl ?_
    refine e_goto (tgt := 318) dX12_nextToken_314 (by decide) ?_
    obtain ⟨s39, es39, hf⟩ := ltb_s hf
    refine e_putI fl_X12_218 dX12_nextToken_318 so_101 fn_11_6 (h2 := hp s39) (by rw [es39]; rfl) (pc2 := 321) rfl ?_
    cases hf
    exact e_vret rfl dX12_nextToken_321
def f_X12_nextToken_j212 (v1 : Int32) (s : HS) : Option HS :=
  (if v1 < 48 then f_X12_nextToken_j322 v1 s else (if 57 < v1 then f_X12_nextToken_j322 v1 s else f_X12_nextToken_l224 (fun s36 => f_X12_nextToken_j299 s36) FU s))
set_option maxRecDepth 20000 in
set_option maxHeartbeats 2000000 in
theorem t_X12_nextToken_j212 (v1 : Int32) (s : HS) {t : HS}  (hf : f_X12_nextToken_j212 v1 s = some t) : Ev DDX12_nextToken miX12_nextToken NF none NF (hp t) 212 NF [(0, .ref 101), (1, .int v1)] [] (hp s) := by
  refine e_iload_n dX12_nextToken_212 1 rfl rfl (pc2 := 213) rfl ?_
  refine e_bipush (x := 48) dX12_nextToken_213 (by decide) (pc2 := 215) rfl ?_
  refine e_icmp_lt (tgt := 322) dX12_nextToken_215 (by decide) (pc2 := 218) rfl (fun c15 => ?_) (fun c15 => ?_)
  · have hf := if_t c15 hf
    exact t_X12_nextToken_j322 v1 s hf
  · have hf := if_f c15 hf
    refine e_iload_n dX12_nextToken_218 1 rfl rfl (pc2 := 219) rfl ?_
    refine e_bipush (x := 57) dX12_nextToken_219 (by decide) (pc2 := 221) rfl ?_
    refine e_icmp_gt (tgt := 322) dX12_nextToken_221 (by decide) (pc2 := 224) rfl (fun c27 => ?_) (fun c27 => ?_)
    · have hf := if_t c27 hf
      exact t_X12_nextToken_j322 v1 s hf
    · have hf := if_f c27 hf
      refine ev_sub [0] rfl ?_
      refine t_X12_nextToken_l224 _ ?_ FU s hf
      · intro s36 hf
        exact t_X12_nextToken_j299 s36 hf
def f_X12_nextToken_j175 (k109 : HS → Option HS) (s : HS) : Option HS :=
  ltb (sI s 101 4 ((s.1 101 4) + 1)) fun s46 => k109 s46
set_option maxRecDepth 20000 in
set_option maxHeartbeats 2000000 in
theorem t_X12_nextToken_j175  (s : HS) {t : HS} (k109 : HS → Option HS) (hk109 : ∀ (s : HS), k109 s = some t → Ev DDX12_nextToken miX12_nextToken NF none NF (hp t) 109 NF [(0, .ref 101)] [] (hp s)) (hf : f_X12_nextToken_j175 k109 s = some t) : Ev DDX12_nextToken miX12_nextToken NF none NF (hp t) 175 NF [(0, .ref 101)] [] (hp s) := by
  refine e_aload_n dX12_nextToken_175 0 rfl rfl (pc2 := 176) rfl ?_
  refine e_dup dX12_nextToken_176 rfl (pc2 := 177) rfl ?_
  refine e_getI fl_X12_205 dX12_nextToken_177 so_101 (by decide) (pc2 := 180) rfl ?_
  refine e_iconst (x := 1) dX12_nextToken_180 (by decide) (pc2 := 181) rfl ?_
  refine e_iadd dX12_nextToken_181 (pc2 := 182) rfl ?_
  obtain ⟨s46, es46, hf⟩ := ltb_s hf
  refine e_putI fl_X12_205 dX12_nextToken_182 so_101 fn_11_4 (h2 := hp s46) (by rw [es46]; rfl) (pc2 := 185) rfl ?_
  refine e_goto (tgt := 109) dX12_nextToken_185 (by decide) ?_
  exact hk109 s46 hf
def f_X12_nextToken_l109b (k109 : HS → Option HS) (k188 : HS → Option HS) (s : HS) : Option HS :=
  bnd (f_X12_signAt (s.1 101 4) s) fun y41 => (if y41 < 97 then k188 s else bnd (f_X12_signAt (s.1 101 4) s) fun y43 => (if 122 < y43 then k188 s else (if 8 ≤ ((s.1 101 4) - (s.1 101 5)) then f_X12_nextToken_j175 k109 s else bnd (f_X12_signAt (s.1 101 4) s) fun y47 => ltb (sL s 101 7 ((((s.2.1 101 7) * 27) + ((y47 : Int32).toInt64)) - 96)) fun s48 => f_X12_nextToken_j175 k109 s48)))
set_option maxRecDepth 20000 in
set_option maxHeartbeats 2000000 in
theorem t_X12_nextToken_l109b  (s : HS) {t : HS} (k109 : HS → Option HS) (hk109 : ∀ (s : HS), k109 s = some t → Ev DDX12_nextToken miX12_nextToken NF none NF (hp t) 109 NF [(0, .ref 101)] [] (hp s)) (k188 : HS → Option HS) (hk188 : ∀ (s : HS), k188 s = some t → Ev DDX12_nextToken miX12_nextToken NF none NF (hp t) 188 NF [(0, .ref 101)] [] (hp s)) (hf : f_X12_nextToken_l109b k109 k188 s = some t) : Ev DDX12_nextToken miX12_nextToken NF none NF (hp t) 109 NF [(0, .ref 101)] [] (hp s) := by
  refine e_aload_n dX12_nextToken_109 0 rfl rfl (pc2 := 110) rfl ?_
  refine e_aload_n dX12_nextToken_110 0 rfl rfl (pc2 := 111) rfl ?_
  refine e_getI fl_X12_205 dX12_nextToken_111 so_101 (by decide) (pc2 := 114) rfl ?_
  obtain ⟨y41, hy41, hf⟩ := bnd_s hf
  refine e_callVs (t_X12_signAt (s.1 101 4) s hy41) dX12_nextToken_114 cv_X12_221 rfl so_101 rc_11 (by decide) (by first | exact Nat.le_of_ble_eq_true rfl | simp [rva_cat, vc_i, vc_r, vc_l, vc_n]) nn0 rfl (pc2 := 117) rfl ?_
  refine e_bipush (x := 97) dX12_nextToken_117 (by decide) (pc2 := 119) rfl ?_
  refine e_icmp_lt (tgt := 188) dX12_nextToken_119 (by decide) (pc2 := 122) rfl (fun c42 => ?_) (fun c42 => ?_)
  · have hf := if_t c42 hf
    exact hk188 s hf
  · have hf := if_f c42 hf
    refine e_aload_n dX12_nextToken_122 0 rfl rfl (pc2 := 123) rfl ?_
    refine e_aload_n dX12_nextToken_123 0 rfl rfl (pc2 := 124) rfl ?_
    refine e_getI fl_X12_205 dX12_nextToken_124 so_101 (by decide) (pc2 := 127) rfl ?_
    obtain ⟨y43, hy43, hf⟩ := bnd_s hf
    refine e_callVs (t_X12_signAt (s.1 101 4) s hy43) dX12_nextToken_127 cv_X12_221 rfl so_101 rc_11 (by decide) (by first | exact Nat.le_of_ble_eq_true rfl | simp [rva_cat, vc_i, vc_r, vc_l, vc_n]) nn0 rfl (pc2 := 130) rfl ?_
    refine e_bipush (x := 122) dX12_nextToken_130 (by decide) (pc2 := 132) rfl ?_
    refine e_icmp_gt (tgt := 188) dX12_nextToken_132 (by decide) (pc2 := 135) rfl (fun c44 => ?_) (fun c44 => ?_)
    · have hf := if_t c44 hf
      exact hk188 s hf
    · have hf := if_f c44 hf
      refine e_aload_n dX12_nextToken_135 0 rfl rfl (pc2 := 136) rfl ?_
      refine e_getI fl_X12_205 dX12_nextToken_136 so_101 (by decide) (pc2 := 139) rfl ?_
      refine e_aload_n dX12_nextToken_139 0 rfl rfl (pc2 := 140) rfl ?_
      refine e_getI fl_X12_208 dX12_nextToken_140 so_101 (by decide) (pc2 := 143) rfl ?_
      refine e_isub dX12_nextToken_143 (pc2 := 144) rfl ?_
      refine e_bipush (x := 8) dX12_nextToken_144 (by decide) (pc2 := 146) rfl ?_
      refine e_icmp_ge (tgt := 175) dX12_nextToken_146 (by decide) (pc2 := 149) rfl (fun c45 => ?_) (fun c45 => ?_)
      · have hf := if_t c45 hf
        exact t_X12_nextToken_j175 s _ hk109 hf
      · have hf := if_f c45 hf
        refine e_aload_n dX12_nextToken_149 0 rfl rfl (pc2 := 150) rfl ?_
        refine e_aload_n dX12_nextToken_150 0 rfl rfl (pc2 := 151) rfl ?_
        refine e_getL fl_X12_211 dX12_nextToken_151 so_101 rfl (pc2 := 154) rfl ?_
        refine e_ldc2 dX12_nextToken_154 lk_X12_225 (pc2 := 157) rfl ?_
        refine e_lmul dX12_nextToken_157 (pc2 := 158) rfl ?_
        refine e_aload_n dX12_nextToken_158 0 rfl rfl (pc2 := 159) rfl ?_
        refine e_aload_n dX12_nextToken_159 0 rfl rfl (pc2 := 160) rfl ?_
        refine e_getI fl_X12_205 dX12_nextToken_160 so_101 (by decide) (pc2 := 163) rfl ?_
        obtain ⟨y47, hy47, hf⟩ := bnd_s hf
        refine e_callVs (t_X12_signAt (s.1 101 4) s hy47) dX12_nextToken_163 cv_X12_221 rfl so_101 rc_11 (by decide) (by first | exact Nat.le_of_ble_eq_true rfl | simp [rva_cat, vc_i, vc_r, vc_l, vc_n]) nn0 rfl (pc2 := 166) rfl ?_
        refine e_i2l dX12_nextToken_166 (pc2 := 167) rfl ?_
        refine e_ladd dX12_nextToken_167 (pc2 := 168) rfl ?_
        refine e_ldc2 dX12_nextToken_168 lk_X12_227 (pc2 := 171) rfl ?_
        refine e_lsub dX12_nextToken_171 (pc2 := 172) rfl ?_
        obtain ⟨s48, es48, hf⟩ := ltb_s hf
        refine e_putL fl_X12_211 dX12_nextToken_172 so_101 fn_11_7 (h2 := hp s48) (by rw [es48]; rfl) (pc2 := 175) rfl ?_
        exact t_X12_nextToken_j175 s48 _ hk109 hf
def f_X12_nextToken_l109 (k188 : HS → Option HS) : Nat → HS → Option HS
  | 0, _ => none
  | n + 1, s => f_X12_nextToken_l109b  (f_X12_nextToken_l109 k188 n) k188 s
set_option maxRecDepth 20000 in
set_option maxHeartbeats 2000000 in
theorem t_X12_nextToken_l109  {t : HS} (k188 : HS → Option HS) (hk188 : ∀ (s : HS), k188 s = some t → Ev DDX12_nextToken miX12_nextToken NF none NF (hp t) 188 NF [(0, .ref 101)] [] (hp s)) : ∀ (n : Nat)  (s : HS), f_X12_nextToken_l109 k188 n s = some t → Ev DDX12_nextToken miX12_nextToken NF none NF (hp t) 109 NF [(0, .ref 101)] [] (hp s) := by
  intro n
  induction n with
  | zero =>
    intro s hf
    have hf : none = some t := hf
    cases hf
  | succ n ih =>
    intro s hf
    exact t_X12_nextToken_l109b   s _ ih _ hk188 hf
def f_X12_nextToken_j188  (s : HS) : Option HS :=
  (if ((s.1 101 4) - (s.1 101 5)) ≤ 8 then ltb (sI s 101 6 1) fun s51 => some s51 else ltb (sI s 101 6 4) fun s52 => some s52)
set_option maxRecDepth 20000 in
set_option maxHeartbeats 2000000 in
theorem t_X12_nextToken_j188  (s : HS) {t : HS}  (hf : f_X12_nextToken_j188 s = some t) : Ev DDX12_nextToken miX12_nextToken NF none NF (hp t) 188 NF [(0, .ref 101)] [] (hp s) := by
  refine e_aload_n dX12_nextToken_188 0 rfl rfl (pc2 := 189) rfl ?_
  refine e_aload_n dX12_nextToken_189 0 rfl rfl (pc2 := 190) rfl ?_
  refine e_getI fl_X12_205 dX12_nextToken_190 so_101 (by decide) (pc2 := 193) rfl ?_
  refine e_aload_n dX12_nextToken_193 0 rfl rfl (pc2 := 194) rfl ?_
  refine e_getI fl_X12_208 dX12_nextToken_194 so_101 (by decide) (pc2 := 197) rfl ?_
  refine e_isub dX12_nextToken_197 (pc2 := 198) rfl ?_
  refine e_bipush (x := 8) dX12_nextToken_198 (by decide) (pc2 := 200) rfl ?_
  refine e_icmp_le (tgt := 207) dX12_nextToken_200 (by decide) (pc2 := 203) rfl (fun c50 => ?_) (fun c50 => ?_)
  · have hf := if_t c50 hf
    refine e_iconst (x := 1) dX12_nextToken_207 (by decide) (pc2 := 208) rfl ?_
    obtain ⟨s51, es51, hf⟩ := ltb_s hf
    refine e_putI fl_X12_218 dX12_nextToken_208 so_101 fn_11_6 (h2 := hp s51) (by rw [es51]; rfl) (pc2 := 211) rfl ?_
    cases hf
    exact e_vret rfl dX12_nextToken_211
  · have hf := if_f c50 hf
    refine e_iconst (x := 4) dX12_nextToken_203 (by decide) (pc2 := 204) rfl ?_
    refine e_goto (tgt := 208) dX12_nextToken_204 (by decide) ?_
    obtain ⟨s52, es52, hf⟩ := ltb_s hf
    refine e_putI fl_X12_218 dX12_nextToken_208 so_101 fn_11_6 (h2 := hp s52) (by rw [es52]; rfl) (pc2 := 211) rfl ?_
    cases hf
    exact e_vret rfl dX12_nextToken_211
def f_X12_nextToken_j52  (s : HS) : Option HS :=
  ltb (sI s 101 5 (s.1 101 4)) fun s8 => ltb (sL s8 101 7 0) fun s9 => ltb (sI s9 101 8 0) fun s10 => (if (s10.1 101 4) = (s10.1 101 3) then ltb (sI s10 101 6 0) fun s53 => some s53 else gd (inb (s10.1 101 4) 1000) (ltb (s10.1 102 (s10.1 101 4).toNatClampNeg) fun x13 => (if x13 < 97 then f_X12_nextToken_j212 x13 s10 else (if 122 < x13 then f_X12_nextToken_j212 x13 s10 else f_X12_nextToken_l109 (fun s49 => f_X12_nextToken_j188 s49) FU s10))))
set_option maxRecDepth 20000 in
set_option maxHeartbeats 2000000 in
theorem t_X12_nextToken_j52  (s : HS) {t : HS}  (hf : f_X12_nextToken_j52 s = some t) : Ev DDX12_nextToken miX12_nextToken NF none NF (hp t) 52 NF [(0, .ref 101)] [] (hp s) := by
  refine e_aload_n dX12_nextToken_52 0 rfl rfl (pc2 := 53) rfl ?_
  refine e_aload_n dX12_nextToken_53 0 rfl rfl (pc2 := 54) rfl ?_
  refine e_getI fl_X12_205 dX12_nextToken_54 so_101 (by decide) (pc2 := 57) rfl ?_
  obtain ⟨s8, es8, hf⟩ := ltb_s hf
  refine e_putI fl_X12_208 dX12_nextToken_57 so_101 fn_11_5 (h2 := hp s8) (by rw [es8]; rfl) (pc2 := 60) rfl ?_
  refine e_aload_n dX12_nextToken_60 0 rfl rfl (pc2 := 61) rfl ?_
  refine e_lconst (x := 0) dX12_nextToken_61 (by decide) (pc2 := 62) rfl ?_
  obtain ⟨s9, es9, hf⟩ := ltb_s hf
  refine e_putL fl_X12_211 dX12_nextToken_62 so_101 fn_11_7 (h2 := hp s9) (by rw [es9]; rfl) (pc2 := 65) rfl ?_
  refine e_aload_n dX12_nextToken_65 0 rfl rfl (pc2 := 66) rfl ?_
  refine e_iconst (x := 0) dX12_nextToken_66 (by decide) (pc2 := 67) rfl ?_
  obtain ⟨s10, es10, hf⟩ := ltb_s hf
  refine e_putI fl_X12_215 dX12_nextToken_67 so_101 fn_11_8 (h2 := hp s10) (by rw [es10]; rfl) (pc2 := 70) rfl ?_
  refine e_aload_n dX12_nextToken_70 0 rfl rfl (pc2 := 71) rfl ?_
  refine e_getI fl_X12_205 dX12_nextToken_71 so_101 (by decide) (pc2 := 74) rfl ?_
  refine e_aload_n dX12_nextToken_74 0 rfl rfl (pc2 := 75) rfl ?_
  refine e_getI fl_X12_202 dX12_nextToken_75 so_101 (by decide) (pc2 := 78) rfl ?_
  refine e_icmp_ne (tgt := 87) dX12_nextToken_78 (by decide) (pc2 := 81) rfl (fun c11 => ?_) (fun c11 => ?_)
  · have hf := if_f c11 hf
    refine e_aload_n dX12_nextToken_87 0 rfl rfl (pc2 := 88) rfl ?_
    refine e_getR (r := 102) fl_X12_7 dX12_nextToken_88 so_101 (rs_101_2 s10.2.2) (by decide) (pc2 := 91) rfl ?_
    refine e_aload_n dX12_nextToken_91 0 rfl rfl (pc2 := 92) rfl ?_
    refine e_getI fl_X12_205 dX12_nextToken_92 so_101 (by decide) (pc2 := 95) rfl ?_
    obtain ⟨g12, hf⟩ := gd_some hf
    refine e_iald dX12_nextToken_95 sa_102 (inb_v g12) (pc2 := 96) rfl ?_
    obtain ⟨x13, ex13, hf⟩ := ltb_s hf
    refine e_istore_n dX12_nextToken_96 rfl (by decide) ex13.symm (ls' := [(0, .ref 101), (1, .int x13)]) [1, 0] rfl (pc2 := 97) rfl ?_
    refine e_iload_n dX12_nextToken_97 1 rfl rfl (pc2 := 98) rfl ?_
    refine e_bipush (x := 97) dX12_nextToken_98 (by decide) (pc2 := 100) rfl ?_
    refine e_icmp_lt (tgt := 212) dX12_nextToken_100 (by decide) (pc2 := 103) rfl (fun c14 => ?_) (fun c14 => ?_)
    · have hf := if_t c14 hf
      exact t_X12_nextToken_j212 x13 s10 hf
    · have hf := if_f c14 hf
      refine e_iload_n dX12_nextToken_103 1 rfl rfl (pc2 := 104) rfl ?_
      refine e_bipush (x := 122) dX12_nextToken_104 (by decide) (pc2 := 106) rfl ?_
      refine e_icmp_gt (tgt := 212) dX12_nextToken_106 (by decide) (pc2 := 109) rfl (fun c40 => ?_) (fun c40 => ?_)
      · have hf := if_t c40 hf
        exact t_X12_nextToken_j212 x13 s10 hf
      · have hf := if_f c40 hf
        refine ev_sub [0] rfl ?_
        refine t_X12_nextToken_l109 _ ?_ FU s10 hf
        · intro s49 hf
          exact t_X12_nextToken_j188 s49 hf
  · have hf := if_t c11 hf
    refine e_aload_n dX12_nextToken_81 0 rfl rfl (pc2 := 82) rfl ?_
    refine e_iconst (x := 0) dX12_nextToken_82 (by decide) (pc2 := 83) rfl ?_
    obtain ⟨s53, es53, hf⟩ := ltb_s hf
    refine e_putI fl_X12_218 dX12_nextToken_83 so_101 fn_11_6 (h2 := hp s53) (by rw [es53]; rfl) (pc2 := 86) rfl ?_
    cases hf
    exact e_vret rfl dX12_nextToken_86
def f_X12_nextToken  (s : HS) : Option HS :=
  f_X12_nextToken_l0 (fun s7 => f_X12_nextToken_j52 s7) FU s
set_option maxRecDepth 20000 in
set_option maxHeartbeats 2000000 in
theorem t_X12_nextToken  (s : HS) {t : HS} (hf : f_X12_nextToken s = some t) : Mt DDX12_nextToken miX12_nextToken [.ref 101] NF (hp s) none NF (hp t) := by
  refine Mt.of (by decide +kernel) (Nat.le_refl _) (Nat.le_of_ble_eq_true rfl) ?_
  show Ev DDX12_nextToken miX12_nextToken NF none NF (hp t) 0 NF [(0, .ref 101)] [] (hp s)
  unfold f_X12_nextToken at hf
  refine t_X12_nextToken_l0 _ ?_ FU s hf
  · intro s7 hf
    exact t_X12_nextToken_j52 s7 hf
abbrev DDX12_isWord : Nat := 1
def f_X12_isWord (v1 : Int64) (s : HS) : Int32 :=
  (if (s.1 101 6) = 1 then (if (lg_cmp (s.2.1 101 7) v1) = 0 then 1 else 0) else 0)
set_option maxRecDepth 20000 in
set_option maxHeartbeats 2000000 in
theorem t_X12_isWord (v1 : Int64) (s : HS) {x : Int32} (hf : f_X12_isWord v1 s = x) : Mt DDX12_isWord miX12_isWord [.ref 101, .long v1] NF (hp s) (some (.int x)) NF (hp s) := by
  refine Mt.of (by decide +kernel) (Nat.le_refl _) (Nat.le_of_ble_eq_true rfl) ?_
  show Ev DDX12_isWord miX12_isWord NF (some (.int x)) NF (hp s) 0 NF [(0, .ref 101), (1, .long v1)] [] (hp s)
  unfold f_X12_isWord at hf
  refine e_aload_n dX12_isWord_0 0 rfl rfl (pc2 := 1) rfl ?_
  refine e_getI fl_X12_218 dX12_isWord_1 so_101 (by decide) (pc2 := 4) rfl ?_
  refine e_iconst (x := 1) dX12_isWord_4 (by decide) (pc2 := 5) rfl ?_
  refine e_icmp_ne (tgt := 21) dX12_isWord_5 (by decide) (pc2 := 8) rfl (fun c1 => ?_) (fun c1 => ?_)
  · have hf := if_f c1 hf
    refine e_iconst (x := 0) dX12_isWord_21 (by decide) (pc2 := 22) rfl ?_
    cases hf
    exact e_zret (by decide) rfl dX12_isWord_22
  · have hf := if_t c1 hf
    refine e_aload_n dX12_isWord_8 0 rfl rfl (pc2 := 9) rfl ?_
    refine e_getL fl_X12_211 dX12_isWord_9 so_101 rfl (pc2 := 12) rfl ?_
    refine e_lload_n dX12_isWord_12 1 rfl rfl (pc2 := 13) rfl ?_
    refine e_lcmp dX12_isWord_13 (pc2 := 14) rfl ?_
    refine e_if_ne (tgt := 21) dX12_isWord_14 (by decide) (pc2 := 17) rfl (fun c2 => ?_) (fun c2 => ?_)
    · have hf := if_f c2 hf
      refine e_iconst (x := 0) dX12_isWord_21 (by decide) (pc2 := 22) rfl ?_
      cases hf
      exact e_zret (by decide) rfl dX12_isWord_22
    · have hf := if_t c2 hf
      refine e_iconst (x := 1) dX12_isWord_17 (by decide) (pc2 := 18) rfl ?_
      refine e_goto (tgt := 22) dX12_isWord_18 (by decide) ?_
      cases hf
      exact e_zret (by decide) rfl dX12_isWord_22
abbrev DDX12_isSign : Nat := 1
def f_X12_isSign (v1 : Int32) (s : HS) : Option Int32 :=
  (if (s.1 101 6) = 3 then gd (inb (s.1 101 5) 1000) ((if (s.1 102 (s.1 101 5).toNatClampNeg) = v1 then some 1 else some 0)) else some 0)
set_option maxRecDepth 20000 in
set_option maxHeartbeats 2000000 in
theorem t_X12_isSign (v1 : Int32) (s : HS) {x : Int32} (hf : f_X12_isSign v1 s = some x) : Mt DDX12_isSign miX12_isSign [.ref 101, .int v1] NF (hp s) (some (.int x)) NF (hp s) := by
  refine Mt.of (by decide +kernel) (Nat.le_refl _) (Nat.le_of_ble_eq_true rfl) ?_
  show Ev DDX12_isSign miX12_isSign NF (some (.int x)) NF (hp s) 0 NF [(0, .ref 101), (1, .int v1)] [] (hp s)
  unfold f_X12_isSign at hf
  refine e_aload_n dX12_isSign_0 0 rfl rfl (pc2 := 1) rfl ?_
  refine e_getI fl_X12_218 dX12_isSign_1 so_101 (by decide) (pc2 := 4) rfl ?_
  refine e_iconst (x := 3) dX12_isSign_4 (by decide) (pc2 := 5) rfl ?_
  refine e_icmp_ne (tgt := 25) dX12_isSign_5 (by decide) (pc2 := 8) rfl (fun c1 => ?_) (fun c1 => ?_)
  · have hf := if_f c1 hf
    refine e_iconst (x := 0) dX12_isSign_25 (by decide) (pc2 := 26) rfl ?_
    cases hf
    exact e_zret (by decide) rfl dX12_isSign_26
  · have hf := if_t c1 hf
    refine e_aload_n dX12_isSign_8 0 rfl rfl (pc2 := 9) rfl ?_
    refine e_getR (r := 102) fl_X12_7 dX12_isSign_9 so_101 (rs_101_2 s.2.2) (by decide) (pc2 := 12) rfl ?_
    refine e_aload_n dX12_isSign_12 0 rfl rfl (pc2 := 13) rfl ?_
    refine e_getI fl_X12_208 dX12_isSign_13 so_101 (by decide) (pc2 := 16) rfl ?_
    obtain ⟨g2, hf⟩ := gd_some hf
    refine e_iald dX12_isSign_16 sa_102 (inb_v g2) (pc2 := 17) rfl ?_
    refine e_iload_n dX12_isSign_17 1 rfl rfl (pc2 := 18) rfl ?_
    refine e_icmp_ne (tgt := 25) dX12_isSign_18 (by decide) (pc2 := 21) rfl (fun c3 => ?_) (fun c3 => ?_)
    · have hf := if_f c3 hf
      refine e_iconst (x := 0) dX12_isSign_25 (by decide) (pc2 := 26) rfl ?_
      cases hf
      exact e_zret (by decide) rfl dX12_isSign_26
    · have hf := if_t c3 hf
      refine e_iconst (x := 1) dX12_isSign_21 (by decide) (pc2 := 22) rfl ?_
      refine e_goto (tgt := 26) dX12_isSign_22 (by decide) ?_
      cases hf
      exact e_zret (by decide) rfl dX12_isSign_26
