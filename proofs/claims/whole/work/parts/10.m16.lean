abbrev DDX12_laws : Nat := 2
def f_X12_laws_j75 (v1 : Int32) (v2 : Int32) (v3 : Int32) (v4 : Int32) (v5 : Int32) (v6 : Int32) (v7 : Int32) (k38 : Int32 → Int32 → Int32 → Int32 → HS → Option (Int32 × HS)) (s : HS) : Option (Int32 × HS) :=
  (if v4 = 0 then ltb (v2 + 1) fun x10 => ltb (v6 + 1) fun x11 => k38 x10 v3 0 x11 s else (if v7 = v3 then ltb (v2 + 1) fun x15 => ltb (v6 + 1) fun x16 => k38 x15 v3 1 x16 s else ltb (v2 + 1) fun x13 => ltb (v6 + 1) fun x14 => k38 x13 v3 0 x14 s))
set_option maxRecDepth 20000 in
set_option maxHeartbeats 2000000 in
theorem t_X12_laws_j75 (v1 : Int32) (v2 : Int32) (v3 : Int32) (v4 : Int32) (v5 : Int32) (v6 : Int32) (v7 : Int32) (s : HS) {x : Int32} {t : HS} (k38 : Int32 → Int32 → Int32 → Int32 → HS → Option (Int32 × HS)) (hk38 : ∀ (a2 : Int32) (a3 : Int32) (a4 : Int32) (a6 : Int32) (s : HS), k38 a2 a3 a4 a6 s = some (x, t) → Ev DDX12_laws miX12_laws NF (some (.int x)) NF (hp t) 38 NF [(0, .ref 101), (1, .int v1), (2, .int a2), (3, .int a3), (4, .int a4), (5, .int v5), (6, .int a6)] [] (hp s)) (hf : f_X12_laws_j75 v1 v2 v3 v4 v5 v6 v7 k38 s = some (x, t)) : Ev DDX12_laws miX12_laws NF (some (.int x)) NF (hp t) 75 NF [(0, .ref 101), (1, .int v1), (2, .int v2), (3, .int v3), (4, .int v4), (5, .int v5), (6, .int v6), (7, .int v7)] [] (hp s) := by
  refine e_iload dX12_laws_75 4 rfl (pc2 := 77) rfl ?_
  refine e_if_eq (tgt := 90) dX12_laws_77 (by decide) (pc2 := 80) rfl (fun c9 => ?_) (fun c9 => ?_)
  · have hf := if_t c9 hf
    refine e_iconst (x := 0) dX12_laws_90 (by decide) (pc2 := 91) rfl ?_
    refine e_istore dX12_laws_91 (by decide) rfl (ls' := [(0, .ref 101), (1, .int v1), (2, .int v2), (3, .int v3), (4, .int 0), (5, .int v5), (6, .int v6)]) [1, 2, 3, 4, 0, 5, 6] rfl (pc2 := 93) rfl ?_
    obtain ⟨x10, ex10, hf⟩ := ltb_s hf
    refine e_iinc dX12_laws_93 2 rfl (c9 := 1) (by decide) ex10.symm (by decide) (ls' := [(0, .ref 101), (1, .int v1), (2, .int x10), (3, .int v3), (4, .int 0), (5, .int v5), (6, .int v6)]) [1, 2, 0, 3, 4, 5, 6] rfl (pc2 := 96) rfl ?_
    obtain ⟨x11, ex11, hf⟩ := ltb_s hf
    refine e_iinc dX12_laws_96 6 rfl (c9 := 1) (by decide) ex11.symm (by decide) (ls' := [(0, .ref 101), (1, .int v1), (2, .int x10), (3, .int v3), (4, .int 0), (5, .int v5), (6, .int x11)]) [1, 2, 3, 4, 5, 6, 0] rfl (pc2 := 99) rfl ?_
    refine e_goto (tgt := 38) dX12_laws_99 (by decide) ?_
    exact hk38 x10 v3 0 x11 s hf
  · have hf := if_f c9 hf
    refine e_iload dX12_laws_80 7 rfl (pc2 := 82) rfl ?_
    refine e_iload_n dX12_laws_82 3 rfl rfl (pc2 := 83) rfl ?_
    refine e_icmp_ne (tgt := 90) dX12_laws_83 (by decide) (pc2 := 86) rfl (fun c12 => ?_) (fun c12 => ?_)
    · have hf := if_f c12 hf
      refine e_iconst (x := 0) dX12_laws_90 (by decide) (pc2 := 91) rfl ?_
      refine e_istore dX12_laws_91 (by decide) rfl (ls' := [(0, .ref 101), (1, .int v1), (2, .int v2), (3, .int v3), (4, .int 0), (5, .int v5), (6, .int v6)]) [1, 2, 3, 4, 0, 5, 6] rfl (pc2 := 93) rfl ?_
      obtain ⟨x13, ex13, hf⟩ := ltb_s hf
      refine e_iinc dX12_laws_93 2 rfl (c9 := 1) (by decide) ex13.symm (by decide) (ls' := [(0, .ref 101), (1, .int v1), (2, .int x13), (3, .int v3), (4, .int 0), (5, .int v5), (6, .int v6)]) [1, 2, 0, 3, 4, 5, 6] rfl (pc2 := 96) rfl ?_
      obtain ⟨x14, ex14, hf⟩ := ltb_s hf
      refine e_iinc dX12_laws_96 6 rfl (c9 := 1) (by decide) ex14.symm (by decide) (ls' := [(0, .ref 101), (1, .int v1), (2, .int x13), (3, .int v3), (4, .int 0), (5, .int v5), (6, .int x14)]) [1, 2, 3, 4, 5, 6, 0] rfl (pc2 := 99) rfl ?_
      refine e_goto (tgt := 38) dX12_laws_99 (by decide) ?_
      exact hk38 x13 v3 0 x14 s hf
    · have hf := if_t c12 hf
      refine e_iconst (x := 1) dX12_laws_86 (by decide) (pc2 := 87) rfl ?_
      refine e_goto (tgt := 91) dX12_laws_87 (by decide) ?_
      refine e_istore dX12_laws_91 (by decide) rfl (ls' := [(0, .ref 101), (1, .int v1), (2, .int v2), (3, .int v3), (4, .int 1), (5, .int v5), (6, .int v6)]) [1, 2, 3, 4, 0, 5, 6] rfl (pc2 := 93) rfl ?_
      obtain ⟨x15, ex15, hf⟩ := ltb_s hf
      refine e_iinc dX12_laws_93 2 rfl (c9 := 1) (by decide) ex15.symm (by decide) (ls' := [(0, .ref 101), (1, .int v1), (2, .int x15), (3, .int v3), (4, .int 1), (5, .int v5), (6, .int v6)]) [1, 2, 0, 3, 4, 5, 6] rfl (pc2 := 96) rfl ?_
      obtain ⟨x16, ex16, hf⟩ := ltb_s hf
      refine e_iinc dX12_laws_96 6 rfl (c9 := 1) (by decide) ex16.symm (by decide) (ls' := [(0, .ref 101), (1, .int v1), (2, .int x15), (3, .int v3), (4, .int 1), (5, .int v5), (6, .int x16)]) [1, 2, 3, 4, 5, 6, 0] rfl (pc2 := 99) rfl ?_
      refine e_goto (tgt := 38) dX12_laws_99 (by decide) ?_
      exact hk38 x15 v3 1 x16 s hf
def f_X12_laws_l38b (v1 : Int32) (v2 : Int32) (v3 : Int32) (v4 : Int32) (v5 : Int32) (v6 : Int32) (k38 : Int32 → Int32 → Int32 → Int32 → HS → Option (Int32 × HS)) (k102 : Int32 → Int32 → Int32 → HS → Option (Int32 × HS)) (s : HS) : Option (Int32 × HS) :=
  (if 10 ≤ v6 then k102 v2 v3 v4 s else bnd (f_X12_isLaw v5 v6 s) fun y5 => (if y5 = 0 then ltb (v6 + 1) fun x17 => k38 v2 v3 v4 x17 s else ltb (v5 + (v6 * v1)) fun x7 => (if v2 = 0 then f_X12_laws_j75 v1 v2 x7 v4 v5 v6 x7 k38 s else f_X12_laws_j75 v1 v2 v3 v4 v5 v6 x7 k38 s)))
set_option maxRecDepth 20000 in
set_option maxHeartbeats 2000000 in
theorem t_X12_laws_l38b (v1 : Int32) (v2 : Int32) (v3 : Int32) (v4 : Int32) (v5 : Int32) (v6 : Int32) (s : HS) {x : Int32} {t : HS} (k38 : Int32 → Int32 → Int32 → Int32 → HS → Option (Int32 × HS)) (hk38 : ∀ (a2 : Int32) (a3 : Int32) (a4 : Int32) (a6 : Int32) (s : HS), k38 a2 a3 a4 a6 s = some (x, t) → Ev DDX12_laws miX12_laws NF (some (.int x)) NF (hp t) 38 NF [(0, .ref 101), (1, .int v1), (2, .int a2), (3, .int a3), (4, .int a4), (5, .int v5), (6, .int a6)] [] (hp s)) (k102 : Int32 → Int32 → Int32 → HS → Option (Int32 × HS)) (hk102 : ∀ (a2 : Int32) (a3 : Int32) (a4 : Int32) (s : HS), k102 a2 a3 a4 s = some (x, t) → Ev DDX12_laws miX12_laws NF (some (.int x)) NF (hp t) 102 NF [(0, .ref 101), (1, .int v1), (2, .int a2), (3, .int a3), (4, .int a4), (5, .int v5)] [] (hp s)) (hf : f_X12_laws_l38b v1 v2 v3 v4 v5 v6 k38 k102 s = some (x, t)) : Ev DDX12_laws miX12_laws NF (some (.int x)) NF (hp t) 38 NF [(0, .ref 101), (1, .int v1), (2, .int v2), (3, .int v3), (4, .int v4), (5, .int v5), (6, .int v6)] [] (hp s) := by
  refine e_iload dX12_laws_38 6 rfl (pc2 := 40) rfl ?_
  refine e_bipush (x := 10) dX12_laws_40 (by decide) (pc2 := 42) rfl ?_
  refine e_icmp_ge (tgt := 102) dX12_laws_42 (by decide) (pc2 := 45) rfl (fun c4 => ?_) (fun c4 => ?_)
  · have hf := if_t c4 hf
    refine ev_sub [0, 1, 2, 3, 4, 5] rfl ?_
    exact hk102 v2 v3 v4 s hf
  · have hf := if_f c4 hf
    refine e_aload_n dX12_laws_45 0 rfl rfl (pc2 := 46) rfl ?_
    refine e_iload dX12_laws_46 5 rfl (pc2 := 48) rfl ?_
    refine e_iload dX12_laws_48 6 rfl (pc2 := 50) rfl ?_
    obtain ⟨y5, hy5, hf⟩ := bnd_s hf
    refine e_callVs (t_X12_isLaw v5 v6 s hy5) dX12_laws_50 cv_X12_575 rfl so_101 rc_11 (by decide) (by first | exact Nat.le_of_ble_eq_true rfl | simp [rva_cat, vc_i, vc_r, vc_l, vc_n]) nn0 rfl (pc2 := 53) rfl ?_
    refine e_if_ne (tgt := 59) dX12_laws_53 (by decide) (pc2 := 56) rfl (fun c6 => ?_) (fun c6 => ?_)
    · have hf := if_f c6 hf
      refine e_iload dX12_laws_59 5 rfl (pc2 := 61) rfl ?_
      refine e_iload dX12_laws_61 6 rfl (pc2 := 63) rfl ?_
      refine e_iload_n dX12_laws_63 1 rfl rfl (pc2 := 64) rfl ?_
      refine e_imul dX12_laws_64 (pc2 := 65) rfl ?_
      refine e_iadd dX12_laws_65 (pc2 := 66) rfl ?_
      obtain ⟨x7, ex7, hf⟩ := ltb_s hf
      refine e_istore dX12_laws_66 (by decide) ex7.symm (ls' := [(0, .ref 101), (1, .int v1), (2, .int v2), (3, .int v3), (4, .int v4), (5, .int v5), (6, .int v6), (7, .int x7)]) [1, 2, 3, 4, 5, 6, 7, 0] rfl (pc2 := 68) rfl ?_
      refine e_iload_n dX12_laws_68 2 rfl rfl (pc2 := 69) rfl ?_
      refine e_if_ne (tgt := 75) dX12_laws_69 (by decide) (pc2 := 72) rfl (fun c8 => ?_) (fun c8 => ?_)
      · have hf := if_f c8 hf
        exact t_X12_laws_j75 v1 v2 v3 v4 v5 v6 x7 s _ hk38 hf
      · have hf := if_t c8 hf
        refine e_iload dX12_laws_72 7 rfl (pc2 := 74) rfl ?_
        refine e_istore_n dX12_laws_74 rfl (by decide) rfl (ls' := [(0, .ref 101), (1, .int v1), (2, .int v2), (3, .int x7), (4, .int v4), (5, .int v5), (6, .int v6), (7, .int x7)]) [1, 2, 3, 0, 4, 5, 6, 7] rfl (pc2 := 75) rfl ?_
        exact t_X12_laws_j75 v1 v2 x7 v4 v5 v6 x7 s _ hk38 hf
    · have hf := if_t c6 hf
      refine e_goto (tgt := 96) dX12_laws_56 (by decide) ?_
      obtain ⟨x17, ex17, hf⟩ := ltb_s hf
      refine e_iinc dX12_laws_96 6 rfl (c9 := 1) (by decide) ex17.symm (by decide) (ls' := [(0, .ref 101), (1, .int v1), (2, .int v2), (3, .int v3), (4, .int v4), (5, .int v5), (6, .int x17)]) [1, 2, 3, 4, 5, 6, 0] rfl (pc2 := 99) rfl ?_
      refine e_goto (tgt := 38) dX12_laws_99 (by decide) ?_
      exact hk38 v2 v3 v4 x17 s hf
def f_X12_laws_l38 (v1 : Int32) (v5 : Int32) (k102 : Int32 → Int32 → Int32 → HS → Option (Int32 × HS)) : Nat → Int32 → Int32 → Int32 → Int32 → HS → Option (Int32 × HS)
  | 0, _, _, _, _, _ => none
  | n + 1, v2, v3, v4, v6, s => f_X12_laws_l38b v1 v2 v3 v4 v5 v6 (f_X12_laws_l38 v1 v5 k102 n) k102 s
set_option maxRecDepth 20000 in
set_option maxHeartbeats 2000000 in
theorem t_X12_laws_l38 (v1 : Int32) (v5 : Int32) {x : Int32} {t : HS} (k102 : Int32 → Int32 → Int32 → HS → Option (Int32 × HS)) (hk102 : ∀ (a2 : Int32) (a3 : Int32) (a4 : Int32) (s : HS), k102 a2 a3 a4 s = some (x, t) → Ev DDX12_laws miX12_laws NF (some (.int x)) NF (hp t) 102 NF [(0, .ref 101), (1, .int v1), (2, .int a2), (3, .int a3), (4, .int a4), (5, .int v5)] [] (hp s)) : ∀ (n : Nat) (v2 : Int32) (v3 : Int32) (v4 : Int32) (v6 : Int32) (s : HS), f_X12_laws_l38 v1 v5 k102 n v2 v3 v4 v6 s = some (x, t) → Ev DDX12_laws miX12_laws NF (some (.int x)) NF (hp t) 38 NF [(0, .ref 101), (1, .int v1), (2, .int v2), (3, .int v3), (4, .int v4), (5, .int v5), (6, .int v6)] [] (hp s) := by
  intro n
  induction n with
  | zero =>
    intro v2 v3 v4 v6 s hf
    have hf : none = some (x, t) := hf
    cases hf
  | succ n ih =>
    intro v2 v3 v4 v6 s hf
    exact t_X12_laws_l38b v1 v2 v3 v4 v5 v6  s _ ih _ hk102 hf
def f_X12_laws_l28b (v1 : Int32) (v2 : Int32) (v3 : Int32) (v4 : Int32) (v5 : Int32) (k28 : Int32 → Int32 → Int32 → Int32 → HS → Option (Int32 × HS)) (k108 : Int32 → Int32 → Int32 → HS → Option (Int32 × HS)) (s : HS) : Option (Int32 × HS) :=
  (if 10 ≤ v5 then k108 v2 v3 v4 s else f_X12_laws_l38 v1 v5 (fun v18 v19 v20 s21 => ltb (v5 + 1) fun x22 => k28 v18 v19 v20 x22 s21) FU v2 v3 v4 0 s)
set_option maxRecDepth 20000 in
set_option maxHeartbeats 2000000 in
theorem t_X12_laws_l28b (v1 : Int32) (v2 : Int32) (v3 : Int32) (v4 : Int32) (v5 : Int32) (s : HS) {x : Int32} {t : HS} (k28 : Int32 → Int32 → Int32 → Int32 → HS → Option (Int32 × HS)) (hk28 : ∀ (a2 : Int32) (a3 : Int32) (a4 : Int32) (a5 : Int32) (s : HS), k28 a2 a3 a4 a5 s = some (x, t) → Ev DDX12_laws miX12_laws NF (some (.int x)) NF (hp t) 28 NF [(0, .ref 101), (1, .int v1), (2, .int a2), (3, .int a3), (4, .int a4), (5, .int a5)] [] (hp s)) (k108 : Int32 → Int32 → Int32 → HS → Option (Int32 × HS)) (hk108 : ∀ (a2 : Int32) (a3 : Int32) (a4 : Int32) (s : HS), k108 a2 a3 a4 s = some (x, t) → Ev DDX12_laws miX12_laws NF (some (.int x)) NF (hp t) 108 NF [(1, .int v1), (2, .int a2), (3, .int a3), (4, .int a4)] [] (hp s)) (hf : f_X12_laws_l28b v1 v2 v3 v4 v5 k28 k108 s = some (x, t)) : Ev DDX12_laws miX12_laws NF (some (.int x)) NF (hp t) 28 NF [(0, .ref 101), (1, .int v1), (2, .int v2), (3, .int v3), (4, .int v4), (5, .int v5)] [] (hp s) := by
  refine e_iload dX12_laws_28 5 rfl (pc2 := 30) rfl ?_
  refine e_bipush (x := 10) dX12_laws_30 (by decide) (pc2 := 32) rfl ?_
  refine e_icmp_ge (tgt := 108) dX12_laws_32 (by decide) (pc2 := 35) rfl (fun c3 => ?_) (fun c3 => ?_)
  · have hf := if_t c3 hf
    refine ev_sub [1, 2, 3, 4] rfl ?_
    exact hk108 v2 v3 v4 s hf
  · have hf := if_f c3 hf
    refine e_iconst (x := 0) dX12_laws_35 (by decide) (pc2 := 36) rfl ?_
    refine e_istore dX12_laws_36 (by decide) rfl (ls' := [(0, .ref 101), (1, .int v1), (2, .int v2), (3, .int v3), (4, .int v4), (5, .int v5), (6, .int 0)]) [1, 2, 3, 4, 5, 6, 0] rfl (pc2 := 38) rfl ?_
    refine t_X12_laws_l38 v1 v5 _ ?_ FU v2 v3 v4 0 s hf
    · intro v18 v19 v20 s21 hf
      obtain ⟨x22, ex22, hf⟩ := ltb_s hf
      refine e_iinc dX12_laws_102 5 rfl (c9 := 1) (by decide) ex22.symm (by decide) (ls' := [(0, .ref 101), (1, .int v1), (2, .int v18), (3, .int v19), (4, .int v20), (5, .int x22)]) [1, 2, 3, 4, 5, 0] rfl (pc2 := 105) rfl ?_
      refine e_goto (tgt := 28) dX12_laws_105 (by decide) ?_
      exact hk28 v18 v19 v20 x22 s21 hf
def f_X12_laws_l28 (v1 : Int32) (k108 : Int32 → Int32 → Int32 → HS → Option (Int32 × HS)) : Nat → Int32 → Int32 → Int32 → Int32 → HS → Option (Int32 × HS)
  | 0, _, _, _, _, _ => none
  | n + 1, v2, v3, v4, v5, s => f_X12_laws_l28b v1 v2 v3 v4 v5 (f_X12_laws_l28 v1 k108 n) k108 s
set_option maxRecDepth 20000 in
set_option maxHeartbeats 2000000 in
theorem t_X12_laws_l28 (v1 : Int32) {x : Int32} {t : HS} (k108 : Int32 → Int32 → Int32 → HS → Option (Int32 × HS)) (hk108 : ∀ (a2 : Int32) (a3 : Int32) (a4 : Int32) (s : HS), k108 a2 a3 a4 s = some (x, t) → Ev DDX12_laws miX12_laws NF (some (.int x)) NF (hp t) 108 NF [(1, .int v1), (2, .int a2), (3, .int a3), (4, .int a4)] [] (hp s)) : ∀ (n : Nat) (v2 : Int32) (v3 : Int32) (v4 : Int32) (v5 : Int32) (s : HS), f_X12_laws_l28 v1 k108 n v2 v3 v4 v5 s = some (x, t) → Ev DDX12_laws miX12_laws NF (some (.int x)) NF (hp t) 28 NF [(0, .ref 101), (1, .int v1), (2, .int v2), (3, .int v3), (4, .int v4), (5, .int v5)] [] (hp s) := by
  intro n
  induction n with
  | zero =>
    intro v2 v3 v4 v5 s hf
    have hf : none = some (x, t) := hf
    cases hf
  | succ n ih =>
    intro v2 v3 v4 v5 s hf
    exact t_X12_laws_l28b v1 v2 v3 v4 v5  s _ ih _ hk108 hf
def f_X12_laws (v1 : Int32) (s : HS) : Option (Int32 × HS) :=
  ltb (sI s 101 0 0) fun s1 => (if (f_X12_within v1 (-1) 9 s1) = 0 then some ((-2), s1) else f_X12_laws_l28 v1 (fun v23 v24 v25 s26 => (if v1 = (-1) then some (v23, s26) else (if v23 = 0 then some ((-2), s26) else (if v25 = 0 then some ((-2), s26) else some (v24, s26))))) FU 0 0 1 0 s1)
set_option maxRecDepth 20000 in
set_option maxHeartbeats 2000000 in
theorem t_X12_laws (v1 : Int32) (s : HS) {x : Int32} {t : HS} (hf : f_X12_laws  v1 s = some (x, t)) : Mt DDX12_laws miX12_laws [.ref 101, .int v1] NF (hp s) (some (.int x)) NF (hp t) := by
  refine Mt.of (by decide +kernel) (Nat.le_refl _) (Nat.le_of_ble_eq_true rfl) ?_
  show Ev DDX12_laws miX12_laws NF (some (.int x)) NF (hp t) 0 NF [(0, .ref 101), (1, .int v1)] [] (hp s)
  unfold f_X12_laws at hf
  refine e_aload_n dX12_laws_0 0 rfl rfl (pc2 := 1) rfl ?_
  refine e_iconst (x := 0) dX12_laws_1 (by decide) (pc2 := 2) rfl ?_
  obtain ⟨s1, es1, hf⟩ := ltb_s hf
  refine e_putI fl_X12_194 dX12_laws_2 so_101 fn_11_0 (h2 := hp s1) (by rw [es1]; rfl) (pc2 := 5) rfl ?_
  refine e_iload_n dX12_laws_5 1 rfl rfl (pc2 := 6) rfl ?_
  refine e_iconst (x := (-1)) dX12_laws_6 (by decide) (pc2 := 7) rfl ?_
  refine e_bipush (x := 9) dX12_laws_7 (by decide) (pc2 := 9) rfl ?_
  refine e_callSs (t_X12_within v1 (-1) 9 s1 rfl) dX12_laws_9 cs_X12_343 rfl (by decide) (by first | exact Nat.le_of_ble_eq_true rfl | simp [rva_cat, vc_i, vc_r, vc_l, vc_n]) nn0 rfl (pc2 := 12) rfl ?_
  refine e_if_ne (tgt := 18) dX12_laws_12 (by decide) (pc2 := 15) rfl (fun c2 => ?_) (fun c2 => ?_)
  · have hf := if_f c2 hf
    refine e_iconst (x := 0) dX12_laws_18 (by decide) (pc2 := 19) rfl ?_
    refine e_istore_n dX12_laws_19 rfl (by decide) rfl (ls' := [(0, .ref 101), (1, .int v1), (2, .int 0)]) [1, 2, 0] rfl (pc2 := 20) rfl ?_
    refine e_iconst (x := 0) dX12_laws_20 (by decide) (pc2 := 21) rfl ?_
    refine e_istore_n dX12_laws_21 rfl (by decide) rfl (ls' := [(0, .ref 101), (1, .int v1), (2, .int 0), (3, .int 0)]) [1, 2, 3, 0] rfl (pc2 := 22) rfl ?_
    refine e_iconst (x := 1) dX12_laws_22 (by decide) (pc2 := 23) rfl ?_
    refine e_istore dX12_laws_23 (by decide) rfl (ls' := [(0, .ref 101), (1, .int v1), (2, .int 0), (3, .int 0), (4, .int 1)]) [1, 2, 3, 4, 0] rfl (pc2 := 25) rfl ?_
    refine e_iconst (x := 0) dX12_laws_25 (by decide) (pc2 := 26) rfl ?_
    refine e_istore dX12_laws_26 (by decide) rfl (ls' := [(0, .ref 101), (1, .int v1), (2, .int 0), (3, .int 0), (4, .int 1), (5, .int 0)]) [1, 2, 3, 4, 5, 0] rfl (pc2 := 28) rfl ?_
    refine t_X12_laws_l28 v1 _ ?_ FU 0 0 1 0 s1 hf
    · intro v23 v24 v25 s26 hf
      refine e_iload_n dX12_laws_108 0 rfl rfl (pc2 := 109) rfl ?_
      refine e_iconst (x := (-1)) dX12_laws_109 (by decide) (pc2 := 110) rfl ?_
      refine e_icmp_ne (tgt := 117) dX12_laws_110 (by decide) (pc2 := 113) rfl (fun c27 => ?_) (fun c27 => ?_)
      · have hf := if_f c27 hf
        refine e_iload_n dX12_laws_117 1 rfl rfl (pc2 := 118) rfl ?_
        refine e_if_eq (tgt := 126) dX12_laws_118 (by decide) (pc2 := 121) rfl (fun c28 => ?_) (fun c28 => ?_)
        · have hf := if_t c28 hf
          refine e_bipush (x := (-2)) dX12_laws_126 (by decide) (pc2 := 128) rfl ?_
          refine e_goto (tgt := 132) dX12_laws_128 (by decide) ?_
          cases hf
          exact e_iret rfl dX12_laws_132
        · have hf := if_f c28 hf
          refine e_iload dX12_laws_121 3 rfl (pc2 := 123) rfl ?_
          refine e_if_ne (tgt := 131) dX12_laws_123 (by decide) (pc2 := 126) rfl (fun c29 => ?_) (fun c29 => ?_)
          · have hf := if_f c29 hf
            refine e_iload_n dX12_laws_131 2 rfl rfl (pc2 := 132) rfl ?_
            cases hf
            exact e_iret rfl dX12_laws_132
          · have hf := if_t c29 hf
            refine e_bipush (x := (-2)) dX12_laws_126 (by decide) (pc2 := 128) rfl ?_
            refine e_goto (tgt := 132) dX12_laws_128 (by decide) ?_
            cases hf
            exact e_iret rfl dX12_laws_132
      · have hf := if_t c27 hf
        refine e_iload_n dX12_laws_113 1 rfl rfl (pc2 := 114) rfl ?_
        refine e_goto (tgt := 132) dX12_laws_114 (by decide) ?_
        cases hf
        exact e_iret rfl dX12_laws_132
  · have hf := if_t c2 hf
    refine e_bipush (x := (-2)) dX12_laws_15 (by decide) (pc2 := 17) rfl ?_
    cases hf
    exact e_iret rfl dX12_laws_17
abbrev DDX12_see : Nat := 2
def f_X12_see (v1 : Int32) (v2 : Int32) (s : HS) : Option (Int32 × HS) :=
  ltb (sI s 101 0 0) fun s1 => (if (f_X12_within v1 0 900 s1) = 0 then some (0, s1) else (if (f_X12_within v2 0 6 s1) = 0 then some (0, s1) else (if (s1.1 142 0) = 6 then some (0, s1) else gd (inb (s1.1 142 0) 30) (ltb (sI s1 143 ((s1.1 142 0).toNatClampNeg) v1) fun s7 => gd (inb (s7.1 142 0) 30) (ltb (sI s7 144 ((s7.1 142 0).toNatClampNeg) v2) fun s10 => ltb (sI s10 142 (0) ((s10.1 142 0) + 1)) fun s13 => some (1, s13))))))
set_option maxRecDepth 20000 in
set_option maxHeartbeats 2000000 in
theorem t_X12_see (v1 : Int32) (v2 : Int32) (s : HS) {x : Int32} {t : HS} (hf : f_X12_see  v1 v2 s = some (x, t)) : Mt DDX12_see miX12_see [.ref 101, .int v1, .int v2] NF (hp s) (some (.int x)) NF (hp t) := by
  refine Mt.of (by decide +kernel) (Nat.le_refl _) (Nat.le_of_ble_eq_true rfl) ?_
  show Ev DDX12_see miX12_see NF (some (.int x)) NF (hp t) 0 NF [(0, .ref 101), (1, .int v1), (2, .int v2)] [] (hp s)
  unfold f_X12_see at hf
  refine e_aload_n dX12_see_0 0 rfl rfl (pc2 := 1) rfl ?_
  refine e_iconst (x := 0) dX12_see_1 (by decide) (pc2 := 2) rfl ?_
  obtain ⟨s1, es1, hf⟩ := ltb_s hf
  refine e_putI fl_X12_194 dX12_see_2 so_101 fn_11_0 (h2 := hp s1) (by rw [es1]; rfl) (pc2 := 5) rfl ?_
  refine e_iload_n dX12_see_5 1 rfl rfl (pc2 := 6) rfl ?_
  refine e_iconst (x := 0) dX12_see_6 (by decide) (pc2 := 7) rfl ?_
  refine e_sipush (x := 900) dX12_see_7 (by decide) (pc2 := 10) rfl ?_
  refine e_callSs (t_X12_within v1 0 900 s1 rfl) dX12_see_10 cs_X12_343 rfl (by decide) (by first | exact Nat.le_of_ble_eq_true rfl | simp [rva_cat, vc_i, vc_r, vc_l, vc_n]) nn0 rfl (pc2 := 13) rfl ?_
  refine e_if_eq (tgt := 37) dX12_see_13 (by decide) (pc2 := 16) rfl (fun c2 => ?_) (fun c2 => ?_)
  · have hf := if_t c2 hf
    refine e_iconst (x := 0) dX12_see_37 (by decide) (pc2 := 38) rfl ?_
    cases hf
    exact e_zret (by decide) rfl dX12_see_38
  · have hf := if_f c2 hf
    refine e_iload_n dX12_see_16 2 rfl rfl (pc2 := 17) rfl ?_
    refine e_iconst (x := 0) dX12_see_17 (by decide) (pc2 := 18) rfl ?_
    refine e_bipush (x := 6) dX12_see_18 (by decide) (pc2 := 20) rfl ?_
    refine e_callSs (t_X12_within v2 0 6 s1 rfl) dX12_see_20 cs_X12_343 rfl (by decide) (by first | exact Nat.le_of_ble_eq_true rfl | simp [rva_cat, vc_i, vc_r, vc_l, vc_n]) nn0 rfl (pc2 := 23) rfl ?_
    refine e_if_eq (tgt := 37) dX12_see_23 (by decide) (pc2 := 26) rfl (fun c3 => ?_) (fun c3 => ?_)
    · have hf := if_t c3 hf
      refine e_iconst (x := 0) dX12_see_37 (by decide) (pc2 := 38) rfl ?_
      cases hf
      exact e_zret (by decide) rfl dX12_see_38
    · have hf := if_f c3 hf
      refine e_aload_n dX12_see_26 0 rfl rfl (pc2 := 27) rfl ?_
      refine e_getR (r := 142) fl_X12_132 dX12_see_27 so_101 (rs_101_52 s1.2.2) (by decide) (pc2 := 30) rfl ?_
      refine e_iconst (x := 0) dX12_see_30 (by decide) (pc2 := 31) rfl ?_
      refine e_iald dX12_see_31 sa_142 (inb_v (by decide)) (pc2 := 32) rfl ?_
      refine e_bipush (x := 6) dX12_see_32 (by decide) (pc2 := 34) rfl ?_
      refine e_icmp_ne (tgt := 39) dX12_see_34 (by decide) (pc2 := 37) rfl (fun c5 => ?_) (fun c5 => ?_)
      · have hf := if_f c5 hf
        refine e_aload_n dX12_see_39 0 rfl rfl (pc2 := 40) rfl ?_
        refine e_getR (r := 143) fl_X12_135 dX12_see_40 so_101 (rs_101_53 s1.2.2) (by decide) (pc2 := 43) rfl ?_
        refine e_aload_n dX12_see_43 0 rfl rfl (pc2 := 44) rfl ?_
        refine e_getR (r := 142) fl_X12_132 dX12_see_44 so_101 (rs_101_52 s1.2.2) (by decide) (pc2 := 47) rfl ?_
        refine e_iconst (x := 0) dX12_see_47 (by decide) (pc2 := 48) rfl ?_
        refine e_iald dX12_see_48 sa_142 (inb_v (by decide)) (pc2 := 49) rfl ?_
        refine e_iload_n dX12_see_49 1 rfl rfl (pc2 := 50) rfl ?_
        obtain ⟨g8, hf⟩ := gd_some hf
        obtain ⟨s7, es7, hf⟩ := ltb_s hf
        refine e_iast dX12_see_50 sa_143 (inb_v g8) (h2 := hp s7) (by rw [es7]; rfl) (pc2 := 51) rfl ?_
        refine e_aload_n dX12_see_51 0 rfl rfl (pc2 := 52) rfl ?_
        refine e_getR (r := 144) fl_X12_138 dX12_see_52 so_101 (rs_101_54 s7.2.2) (by decide) (pc2 := 55) rfl ?_
        refine e_aload_n dX12_see_55 0 rfl rfl (pc2 := 56) rfl ?_
        refine e_getR (r := 142) fl_X12_132 dX12_see_56 so_101 (rs_101_52 s7.2.2) (by decide) (pc2 := 59) rfl ?_
        refine e_iconst (x := 0) dX12_see_59 (by decide) (pc2 := 60) rfl ?_
        refine e_iald dX12_see_60 sa_142 (inb_v (by decide)) (pc2 := 61) rfl ?_
        refine e_iload_n dX12_see_61 2 rfl rfl (pc2 := 62) rfl ?_
        obtain ⟨g11, hf⟩ := gd_some hf
        obtain ⟨s10, es10, hf⟩ := ltb_s hf
        refine e_iast dX12_see_62 sa_144 (inb_v g11) (h2 := hp s10) (by rw [es10]; rfl) (pc2 := 63) rfl ?_
        refine e_aload_n dX12_see_63 0 rfl rfl (pc2 := 64) rfl ?_
        refine e_getR (r := 142) fl_X12_132 dX12_see_64 so_101 (rs_101_52 s10.2.2) (by decide) (pc2 := 67) rfl ?_
        refine e_iconst (x := 0) dX12_see_67 (by decide) (pc2 := 68) rfl ?_
        refine e_dup2 dX12_see_68 rfl rfl (pc2 := 69) rfl ?_
        refine e_iald dX12_see_69 sa_142 (inb_v (by decide)) (pc2 := 70) rfl ?_
        refine e_iconst (x := 1) dX12_see_70 (by decide) (pc2 := 71) rfl ?_
        refine e_iadd dX12_see_71 (pc2 := 72) rfl ?_
        obtain ⟨s13, es13, hf⟩ := ltb_s hf
        refine e_iast dX12_see_72 sa_142 (inb_v (by decide)) (h2 := hp s13) (by rw [es13]; rfl) (pc2 := 73) rfl ?_
        refine e_iconst (x := 1) dX12_see_73 (by decide) (pc2 := 74) rfl ?_
        cases hf
        exact e_zret (by decide) rfl dX12_see_74
      · have hf := if_t c5 hf
        refine e_iconst (x := 0) dX12_see_37 (by decide) (pc2 := 38) rfl ?_
        cases hf
        exact e_zret (by decide) rfl dX12_see_38
abbrev DDX12_was : Nat := 7
def f_X12_was_l24b (v1 : Int32) (v2 : Int32) (v3 : Int32) (v4 : Int32) (k24 : Int32 → Int32 → HS → Option (Int32 × HS)) (k77 : Int32 → HS → Option (Int32 × HS)) (s : HS) : Option (Int32 × HS) :=
  (if (s.1 142 0) ≤ v4 then k77 v3 s else (if v3 = 0 then ltb (v4 + 1) fun x8 => k24 0 x8 s else gd (inb v4 30) (bnd (f_X12_servedBy ((s.1 143 v4.toNatClampNeg) - (60 * v2)) s) fun y10 => gd (inb v4 30) ((if y10 = (s.1 144 v4.toNatClampNeg) then ltb (v4 + 1) fun x14 => k24 1 x14 s else ltb (v4 + 1) fun x13 => k24 0 x13 s)))))
set_option maxRecDepth 20000 in
set_option maxHeartbeats 2000000 in
theorem t_X12_was_l24b (v1 : Int32) (v2 : Int32) (v3 : Int32) (v4 : Int32) (s : HS) {x : Int32} {t : HS} (k24 : Int32 → Int32 → HS → Option (Int32 × HS)) (hk24 : ∀ (a3 : Int32) (a4 : Int32) (s : HS), k24 a3 a4 s = some (x, t) → Ev DDX12_was miX12_was NF (some (.int x)) NF (hp t) 24 NF [(0, .ref 101), (1, .int v1), (2, .int v2), (3, .int a3), (4, .int a4)] [] (hp s)) (k77 : Int32 → HS → Option (Int32 × HS)) (hk77 : ∀ (a3 : Int32) (s : HS), k77 a3 s = some (x, t) → Ev DDX12_was miX12_was NF (some (.int x)) NF (hp t) 77 NF [(0, .ref 101), (1, .int v1), (2, .int v2), (3, .int a3)] [] (hp s)) (hf : f_X12_was_l24b v1 v2 v3 v4 k24 k77 s = some (x, t)) : Ev DDX12_was miX12_was NF (some (.int x)) NF (hp t) 24 NF [(0, .ref 101), (1, .int v1), (2, .int v2), (3, .int v3), (4, .int v4)] [] (hp s) := by
  refine e_iload dX12_was_24 4 rfl (pc2 := 26) rfl ?_
  refine e_aload_n dX12_was_26 0 rfl rfl (pc2 := 27) rfl ?_
  refine e_getR (r := 142) fl_X12_132 dX12_was_27 so_101 (rs_101_52 s.2.2) (by decide) (pc2 := 30) rfl ?_
  refine e_iconst (x := 0) dX12_was_30 (by decide) (pc2 := 31) rfl ?_
  refine e_iald dX12_was_31 sa_142 (inb_v (by decide)) (pc2 := 32) rfl ?_
  refine e_icmp_ge (tgt := 77) dX12_was_32 (by decide) (pc2 := 35) rfl (fun c6 => ?_) (fun c6 => ?_)
  · have hf := if_t c6 hf
    refine ev_sub [0, 1, 2, 3] rfl ?_
    exact hk77 v3 s hf
  · have hf := if_f c6 hf
    refine e_iload_n dX12_was_35 3 rfl rfl (pc2 := 36) rfl ?_
    refine e_if_eq (tgt := 69) dX12_was_36 (by decide) (pc2 := 39) rfl (fun c7 => ?_) (fun c7 => ?_)
    · have hf := if_t c7 hf
      refine e_iconst (x := 0) dX12_was_69 (by decide) (pc2 := 70) rfl ?_
      refine e_istore_n dX12_was_70 rfl (by decide) rfl (ls' := [(0, .ref 101), (1, .int v1), (2, .int v2), (3, .int 0), (4, .int v4)]) [1, 2, 3, 0, 4] rfl (pc2 := 71) rfl ?_
      obtain ⟨x8, ex8, hf⟩ := ltb_s hf
      refine e_iinc dX12_was_71 4 rfl (c9 := 1) (by decide) ex8.symm (by decide) (ls' := [(0, .ref 101), (1, .int v1), (2, .int v2), (3, .int 0), (4, .int x8)]) [1, 2, 3, 4, 0] rfl (pc2 := 74) rfl ?_
      refine e_goto (tgt := 24) dX12_was_74 (by decide) ?_
      exact hk24 0 x8 s hf
    · have hf := if_f c7 hf
      refine e_aload_n dX12_was_39 0 rfl rfl (pc2 := 40) rfl ?_
      refine e_aload_n dX12_was_40 0 rfl rfl (pc2 := 41) rfl ?_
      refine e_getR (r := 143) fl_X12_135 dX12_was_41 so_101 (rs_101_53 s.2.2) (by decide) (pc2 := 44) rfl ?_
      refine e_iload dX12_was_44 4 rfl (pc2 := 46) rfl ?_
      obtain ⟨g9, hf⟩ := gd_some hf
      refine e_iald dX12_was_46 sa_143 (inb_v g9) (pc2 := 47) rfl ?_
      refine e_bipush (x := 60) dX12_was_47 (by decide) (pc2 := 49) rfl ?_
      refine e_iload_n dX12_was_49 2 rfl rfl (pc2 := 50) rfl ?_
      refine e_imul dX12_was_50 (pc2 := 51) rfl ?_
      refine e_isub dX12_was_51 (pc2 := 52) rfl ?_
      obtain ⟨y10, hy10, hf⟩ := bnd_s hf
      refine e_callVs (t_X12_servedBy ((s.1 143 v4.toNatClampNeg) - (60 * v2)) s hy10) dX12_was_52 cv_X12_553 rfl so_101 rc_11 (by decide) (by first | exact Nat.le_of_ble_eq_true rfl | simp [rva_cat, vc_i, vc_r, vc_l, vc_n]) nn0 rfl (pc2 := 55) rfl ?_
      refine e_aload_n dX12_was_55 0 rfl rfl (pc2 := 56) rfl ?_
      refine e_getR (r := 144) fl_X12_138 dX12_was_56 so_101 (rs_101_54 s.2.2) (by decide) (pc2 := 59) rfl ?_
      refine e_iload dX12_was_59 4 rfl (pc2 := 61) rfl ?_
      obtain ⟨g11, hf⟩ := gd_some hf
      refine e_iald dX12_was_61 sa_144 (inb_v g11) (pc2 := 62) rfl ?_
      refine e_icmp_ne (tgt := 69) dX12_was_62 (by decide) (pc2 := 65) rfl (fun c12 => ?_) (fun c12 => ?_)
      · have hf := if_f c12 hf
        refine e_iconst (x := 0) dX12_was_69 (by decide) (pc2 := 70) rfl ?_
        refine e_istore_n dX12_was_70 rfl (by decide) rfl (ls' := [(0, .ref 101), (1, .int v1), (2, .int v2), (3, .int 0), (4, .int v4)]) [1, 2, 3, 0, 4] rfl (pc2 := 71) rfl ?_
        obtain ⟨x13, ex13, hf⟩ := ltb_s hf
        refine e_iinc dX12_was_71 4 rfl (c9 := 1) (by decide) ex13.symm (by decide) (ls' := [(0, .ref 101), (1, .int v1), (2, .int v2), (3, .int 0), (4, .int x13)]) [1, 2, 3, 4, 0] rfl (pc2 := 74) rfl ?_
        refine e_goto (tgt := 24) dX12_was_74 (by decide) ?_
        exact hk24 0 x13 s hf
      · have hf := if_t c12 hf
        refine e_iconst (x := 1) dX12_was_65 (by decide) (pc2 := 66) rfl ?_
        refine e_goto (tgt := 70) dX12_was_66 (by decide) ?_
        refine e_istore_n dX12_was_70 rfl (by decide) rfl (ls' := [(0, .ref 101), (1, .int v1), (2, .int v2), (3, .int 1), (4, .int v4)]) [1, 2, 3, 0, 4] rfl (pc2 := 71) rfl ?_
        obtain ⟨x14, ex14, hf⟩ := ltb_s hf
        refine e_iinc dX12_was_71 4 rfl (c9 := 1) (by decide) ex14.symm (by decide) (ls' := [(0, .ref 101), (1, .int v1), (2, .int v2), (3, .int 1), (4, .int x14)]) [1, 2, 3, 4, 0] rfl (pc2 := 74) rfl ?_
        refine e_goto (tgt := 24) dX12_was_74 (by decide) ?_
        exact hk24 1 x14 s hf
def f_X12_was_l24 (v1 : Int32) (v2 : Int32) (k77 : Int32 → HS → Option (Int32 × HS)) : Nat → Int32 → Int32 → HS → Option (Int32 × HS)
  | 0, _, _, _ => none
  | n + 1, v3, v4, s => f_X12_was_l24b v1 v2 v3 v4 (f_X12_was_l24 v1 v2 k77 n) k77 s
set_option maxRecDepth 20000 in
set_option maxHeartbeats 2000000 in
theorem t_X12_was_l24 (v1 : Int32) (v2 : Int32) {x : Int32} {t : HS} (k77 : Int32 → HS → Option (Int32 × HS)) (hk77 : ∀ (a3 : Int32) (s : HS), k77 a3 s = some (x, t) → Ev DDX12_was miX12_was NF (some (.int x)) NF (hp t) 77 NF [(0, .ref 101), (1, .int v1), (2, .int v2), (3, .int a3)] [] (hp s)) : ∀ (n : Nat) (v3 : Int32) (v4 : Int32) (s : HS), f_X12_was_l24 v1 v2 k77 n v3 v4 s = some (x, t) → Ev DDX12_was miX12_was NF (some (.int x)) NF (hp t) 24 NF [(0, .ref 101), (1, .int v1), (2, .int v2), (3, .int v3), (4, .int v4)] [] (hp s) := by
  intro n
  induction n with
  | zero =>
    intro v3 v4 s hf
    have hf : none = some (x, t) := hf
    cases hf
  | succ n ih =>
    intro v3 v4 s hf
    exact t_X12_was_l24b v1 v2 v3 v4  s _ ih _ hk77 hf
def f_X12_was_l13b (v1 : Int32) (v2 : Int32) (k13 : Int32 → Int32 → HS → Option (Int32 × HS)) (s : HS) : Option (Int32 × HS) :=
  (if 10 ≤ v2 then some (v1, s) else f_X12_was_l24 v1 v2 (fun v15 s16 => (if v15 = 0 then ltb (v1 ||| (0 : Int32)) fun x18 => ltb (v2 + 1) fun x19 => k13 x18 x19 s16 else ltb (v1 ||| ((1 : Int32) <<< (v2 &&& 31))) fun x20 => ltb (v2 + 1) fun x21 => k13 x20 x21 s16)) FU 1 0 s)
set_option maxRecDepth 20000 in
set_option maxHeartbeats 2000000 in
theorem t_X12_was_l13b (v1 : Int32) (v2 : Int32) (s : HS) {x : Int32} {t : HS} (k13 : Int32 → Int32 → HS → Option (Int32 × HS)) (hk13 : ∀ (a1 : Int32) (a2 : Int32) (s : HS), k13 a1 a2 s = some (x, t) → Ev DDX12_was miX12_was NF (some (.int x)) NF (hp t) 13 NF [(0, .ref 101), (1, .int a1), (2, .int a2)] [] (hp s)) (hf : f_X12_was_l13b v1 v2 k13 s = some (x, t)) : Ev DDX12_was miX12_was NF (some (.int x)) NF (hp t) 13 NF [(0, .ref 101), (1, .int v1), (2, .int v2)] [] (hp s) := by
  refine e_iload_n dX12_was_13 2 rfl rfl (pc2 := 14) rfl ?_
  refine e_bipush (x := 10) dX12_was_14 (by decide) (pc2 := 16) rfl ?_
  refine e_icmp_ge (tgt := 97) dX12_was_16 (by decide) (pc2 := 19) rfl (fun c4 => ?_) (fun c4 => ?_)
  · have hf := if_t c4 hf
    refine e_iload_n dX12_was_97 1 rfl rfl (pc2 := 98) rfl ?_
    cases hf
    exact e_iret rfl dX12_was_98
  · have hf := if_f c4 hf
    refine e_iconst (x := 1) dX12_was_19 (by decide) (pc2 := 20) rfl ?_
    refine e_istore_n dX12_was_20 rfl (by decide) rfl (ls' := [(0, .ref 101), (1, .int v1), (2, .int v2), (3, .int 1)]) [1, 2, 3, 0] rfl (pc2 := 21) rfl ?_
    refine e_iconst (x := 0) dX12_was_21 (by decide) (pc2 := 22) rfl ?_
    refine e_istore dX12_was_22 (by decide) rfl (ls' := [(0, .ref 101), (1, .int v1), (2, .int v2), (3, .int 1), (4, .int 0)]) [1, 2, 3, 4, 0] rfl (pc2 := 24) rfl ?_
    refine t_X12_was_l24 v1 v2 _ ?_ FU 1 0 s hf
    · intro v15 s16 hf
      refine e_iload_n dX12_was_77 1 rfl rfl (pc2 := 78) rfl ?_
      refine e_iload_n dX12_was_78 3 rfl rfl (pc2 := 79) rfl ?_
      refine e_if_eq (tgt := 88) dX12_was_79 (by decide) (pc2 := 82) rfl (fun c17 => ?_) (fun c17 => ?_)
      · have hf := if_t c17 hf
        refine e_iconst (x := 0) dX12_was_88 (by decide) (pc2 := 89) rfl ?_
        refine e_ior dX12_was_89 (pc2 := 90) rfl ?_
        obtain ⟨x18, ex18, hf⟩ := ltb_s hf
        refine e_istore_n dX12_was_90 rfl (by decide) ex18.symm (ls' := [(0, .ref 101), (1, .int x18), (2, .int v2)]) [1, 0, 2] rfl (pc2 := 91) rfl ?_
        obtain ⟨x19, ex19, hf⟩ := ltb_s hf
        refine e_iinc dX12_was_91 2 rfl (c9 := 1) (by decide) ex19.symm (by decide) (ls' := [(0, .ref 101), (1, .int x18), (2, .int x19)]) [1, 2, 0] rfl (pc2 := 94) rfl ?_
        refine e_goto (tgt := 13) dX12_was_94 (by decide) ?_
        exact hk13 x18 x19 s16 hf
      · have hf := if_f c17 hf
        refine e_iconst (x := 1) dX12_was_82 (by decide) (pc2 := 83) rfl ?_
        refine e_iload_n dX12_was_83 2 rfl rfl (pc2 := 84) rfl ?_
        refine e_ishl dX12_was_84 (pc2 := 85) rfl ?_
        refine e_goto (tgt := 89) dX12_was_85 (by decide) ?_
        refine e_ior dX12_was_89 (pc2 := 90) rfl ?_
        obtain ⟨x20, ex20, hf⟩ := ltb_s hf
        refine e_istore_n dX12_was_90 rfl (by decide) ex20.symm (ls' := [(0, .ref 101), (1, .int x20), (2, .int v2)]) [1, 0, 2] rfl (pc2 := 91) rfl ?_
        obtain ⟨x21, ex21, hf⟩ := ltb_s hf
        refine e_iinc dX12_was_91 2 rfl (c9 := 1) (by decide) ex21.symm (by decide) (ls' := [(0, .ref 101), (1, .int x20), (2, .int x21)]) [1, 2, 0] rfl (pc2 := 94) rfl ?_
        refine e_goto (tgt := 13) dX12_was_94 (by decide) ?_
        exact hk13 x20 x21 s16 hf
def f_X12_was_l13  : Nat → Int32 → Int32 → HS → Option (Int32 × HS)
  | 0, _, _, _ => none
  | n + 1, v1, v2, s => f_X12_was_l13b v1 v2 (f_X12_was_l13  n)  s
set_option maxRecDepth 20000 in
set_option maxHeartbeats 2000000 in
theorem t_X12_was_l13  {x : Int32} {t : HS}  : ∀ (n : Nat) (v1 : Int32) (v2 : Int32) (s : HS), f_X12_was_l13  n v1 v2 s = some (x, t) → Ev DDX12_was miX12_was NF (some (.int x)) NF (hp t) 13 NF [(0, .ref 101), (1, .int v1), (2, .int v2)] [] (hp s) := by
  intro n
  induction n with
  | zero =>
    intro v1 v2 s hf
    have hf : none = some (x, t) := hf
    cases hf
  | succ n ih =>
    intro v1 v2 s hf
    exact t_X12_was_l13b v1 v2  s _ ih  hf
def f_X12_was  (s : HS) : Option (Int32 × HS) :=
  ltb (sI s 101 0 0) fun s1 => bnd (f_X12_runs s1) fun s3 => f_X12_was_l13 FU 0 0 s3
set_option maxRecDepth 20000 in
set_option maxHeartbeats 2000000 in
theorem t_X12_was  (s : HS) {x : Int32} {t : HS} (hf : f_X12_was  s = some (x, t)) : Mt DDX12_was miX12_was [.ref 101] NF (hp s) (some (.int x)) NF (hp t) := by
  refine Mt.of (by decide +kernel) (Nat.le_refl _) (Nat.le_of_ble_eq_true rfl) ?_
  show Ev DDX12_was miX12_was NF (some (.int x)) NF (hp t) 0 NF [(0, .ref 101)] [] (hp s)
  unfold f_X12_was at hf
  refine e_aload_n dX12_was_0 0 rfl rfl (pc2 := 1) rfl ?_
  refine e_iconst (x := 0) dX12_was_1 (by decide) (pc2 := 2) rfl ?_
  obtain ⟨s1, es1, hf⟩ := ltb_s hf
  refine e_putI fl_X12_194 dX12_was_2 so_101 fn_11_0 (h2 := hp s1) (by rw [es1]; rfl) (pc2 := 5) rfl ?_
  refine e_aload_n dX12_was_5 0 rfl rfl (pc2 := 6) rfl ?_
  obtain ⟨s3, hy2, hf⟩ := bnd_s hf
  refine e_callVn (t_X12_runs  s1 hy2) dX12_was_6 cv_X12_528 rfl so_101 rc_11 (by decide) (by first | exact Nat.le_of_ble_eq_true rfl | simp [rva_cat, vc_i, vc_r, vc_l, vc_n]) nn0 rfl (pc2 := 9) rfl ?_
  refine e_iconst (x := 0) dX12_was_9 (by decide) (pc2 := 10) rfl ?_
  refine e_istore_n dX12_was_10 rfl (by decide) rfl (ls' := [(0, .ref 101), (1, .int 0)]) [1, 0] rfl (pc2 := 11) rfl ?_
  refine e_iconst (x := 0) dX12_was_11 (by decide) (pc2 := 12) rfl ?_
  refine e_istore_n dX12_was_12 rfl (by decide) rfl (ls' := [(0, .ref 101), (1, .int 0), (2, .int 0)]) [1, 2, 0] rfl (pc2 := 13) rfl ?_
  refine t_X12_was_l13 FU 0 0 s3 hf
abbrev DDX12_draws : Nat := 1
def f_X12_draws (v1 : Int32) (s : HS) : Option (Int32 × HS) :=
  ltb (sL s 101 77 ((((s.2.1 101 77) * 1103515245) + 12345) - (((s.2.1 101 77) * 1103515245) + 12345) / 2147483648 * 2147483648)) fun s1 => gd (!(((v1 : Int32).toInt64) == 0)) (some ((((s1.2.1 101 77) / 65536) - ((s1.2.1 101 77) / 65536) / ((v1 : Int32).toInt64) * ((v1 : Int32).toInt64) : Int64).toInt32, s1))
set_option maxRecDepth 20000 in
set_option maxHeartbeats 2000000 in
theorem t_X12_draws (v1 : Int32) (s : HS) {x : Int32} {t : HS} (hf : f_X12_draws  v1 s = some (x, t)) : Mt DDX12_draws miX12_draws [.ref 101, .int v1] NF (hp s) (some (.int x)) NF (hp t) := by
  refine Mt.of (by decide +kernel) (Nat.le_refl _) (Nat.le_of_ble_eq_true rfl) ?_
  show Ev DDX12_draws miX12_draws NF (some (.int x)) NF (hp t) 0 NF [(0, .ref 101), (1, .int v1)] [] (hp s)
  unfold f_X12_draws at hf
  refine e_aload_n dX12_draws_0 0 rfl rfl (pc2 := 1) rfl ?_
  refine e_aload_n dX12_draws_1 0 rfl rfl (pc2 := 2) rfl ?_
  refine e_getL fl_X12_578 dX12_draws_2 so_101 rfl (pc2 := 5) rfl ?_
  refine e_ldc2 dX12_draws_5 lk_X12_581 (pc2 := 8) rfl ?_
  refine e_lmul dX12_draws_8 (pc2 := 9) rfl ?_
  refine e_ldc2 dX12_draws_9 lk_X12_583 (pc2 := 12) rfl ?_
  refine e_ladd dX12_draws_12 (pc2 := 13) rfl ?_
  refine e_ldc2 dX12_draws_13 lk_X12_585 (pc2 := 16) rfl ?_
  refine e_lrem dX12_draws_16 (by decide) (pc2 := 17) rfl ?_
  obtain ⟨s1, es1, hf⟩ := ltb_s hf
  refine e_putL fl_X12_578 dX12_draws_17 so_101 fn_11_77 (h2 := hp s1) (by rw [es1]; rfl) (pc2 := 20) rfl ?_
  refine e_aload_n dX12_draws_20 0 rfl rfl (pc2 := 21) rfl ?_
  refine e_getL fl_X12_578 dX12_draws_21 so_101 rfl (pc2 := 24) rfl ?_
  refine e_ldc2 dX12_draws_24 lk_X12_587 (pc2 := 27) rfl ?_
  refine e_ldiv dX12_draws_27 (by decide) (pc2 := 28) rfl ?_
  refine e_iload_n dX12_draws_28 1 rfl rfl (pc2 := 29) rfl ?_
  refine e_i2l dX12_draws_29 (pc2 := 30) rfl ?_
  obtain ⟨g2, hf⟩ := gd_some hf
  refine e_lrem dX12_draws_30 (ne_g g2) (pc2 := 31) rfl ?_
  refine e_l2i dX12_draws_31 (pc2 := 32) rfl ?_
  cases hf
  exact e_iret rfl dX12_draws_32
abbrev DDX12_years : Nat := 7
def f_X12_years_l69b (v2 : Int32) (v3 : Int32) (v4 : Int32) (v5 : Int32) (v6 : Int32) (v7 : Int32) (v8 : Int32) (k69 : Int32 → Int32 → HS → Option (Int32 × HS)) (k115 : Int32 → HS → Option (Int32 × HS)) (s : HS) : Option (Int32 × HS) :=
  (if (s.1 103 2) ≤ v8 then k115 v7 s else bnd2 (f_X12_draws 10 s) fun y11 s12 => gd (inb v8 12) ((if (s12.1 115 v8.toNatClampNeg) ≤ y11 then ltb (v7 ||| (0 : Int32)) fun x15 => ltb (v8 + 1) fun x16 => k69 x15 x16 s12 else ltb (v7 ||| ((1 : Int32) <<< (v8 &&& 31))) fun x17 => ltb (v8 + 1) fun x18 => k69 x17 x18 s12)))
set_option maxRecDepth 20000 in
set_option maxHeartbeats 2000000 in
theorem t_X12_years_l69b (v2 : Int32) (v3 : Int32) (v4 : Int32) (v5 : Int32) (v6 : Int32) (v7 : Int32) (v8 : Int32) (s : HS) {x : Int32} {t : HS} (k69 : Int32 → Int32 → HS → Option (Int32 × HS)) (hk69 : ∀ (a7 : Int32) (a8 : Int32) (s : HS), k69 a7 a8 s = some (x, t) → Ev DDX12_years miX12_years NF (some (.int x)) NF (hp t) 69 NF [(0, .ref 101), (2, .int v2), (3, .int v3), (4, .int v4), (5, .int v5), (6, .int v6), (7, .int a7), (8, .int a8)] [] (hp s)) (k115 : Int32 → HS → Option (Int32 × HS)) (hk115 : ∀ (a7 : Int32) (s : HS), k115 a7 s = some (x, t) → Ev DDX12_years miX12_years NF (some (.int x)) NF (hp t) 115 NF [(0, .ref 101), (2, .int v2), (3, .int v3), (4, .int v4), (5, .int v5), (6, .int v6), (7, .int a7)] [] (hp s)) (hf : f_X12_years_l69b v2 v3 v4 v5 v6 v7 v8 k69 k115 s = some (x, t)) : Ev DDX12_years miX12_years NF (some (.int x)) NF (hp t) 69 NF [(0, .ref 101), (2, .int v2), (3, .int v3), (4, .int v4), (5, .int v5), (6, .int v6), (7, .int v7), (8, .int v8)] [] (hp s) := by
  refine e_iload dX12_years_69 7 rfl (pc2 := 71) rfl ?_
  refine e_aload_n dX12_years_71 0 rfl rfl (pc2 := 72) rfl ?_
  refine e_getR (r := 103) fl_X12_13 dX12_years_72 so_101 (rs_101_10 s.2.2) (by decide) (pc2 := 75) rfl ?_
  refine e_iconst (x := 2) dX12_years_75 (by decide) (pc2 := 76) rfl ?_
  refine e_iald dX12_years_76 sa_103 (inb_v (by decide)) (pc2 := 77) rfl ?_
  refine e_icmp_ge (tgt := 115) dX12_years_77 (by decide) (pc2 := 80) rfl (fun c10 => ?_) (fun c10 => ?_)
  · have hf := if_t c10 hf
    refine ev_sub [0, 1, 2, 3, 4, 5, 6] rfl ?_
    exact hk115 v7 s hf
  · have hf := if_f c10 hf
    refine e_iload dX12_years_80 6 rfl (pc2 := 82) rfl ?_
    refine e_aload_n dX12_years_82 0 rfl rfl (pc2 := 83) rfl ?_
    refine e_bipush (x := 10) dX12_years_83 (by decide) (pc2 := 85) rfl ?_
    obtain ⟨y11, s12, hy11, hf⟩ := bnd2_s hf
    refine e_callVs (t_X12_draws 10 s hy11) dX12_years_85 cv_X12_589 rfl so_101 rc_11 (by decide) (by first | exact Nat.le_of_ble_eq_true rfl | simp [rva_cat, vc_i, vc_r, vc_l, vc_n]) nn0 rfl (pc2 := 88) rfl ?_
    refine e_aload_n dX12_years_88 0 rfl rfl (pc2 := 89) rfl ?_
    refine e_getR (r := 115) fl_X12_50 dX12_years_89 so_101 (rs_101_22 s12.2.2) (by decide) (pc2 := 92) rfl ?_
    refine e_iload dX12_years_92 7 rfl (pc2 := 94) rfl ?_
    obtain ⟨g13, hf⟩ := gd_some hf
    refine e_iald dX12_years_94 sa_115 (inb_v g13) (pc2 := 95) rfl ?_
    refine e_icmp_ge (tgt := 105) dX12_years_95 (by decide) (pc2 := 98) rfl (fun c14 => ?_) (fun c14 => ?_)
    · have hf := if_t c14 hf
      refine e_iconst (x := 0) dX12_years_105 (by decide) (pc2 := 106) rfl ?_
      refine e_ior dX12_years_106 (pc2 := 107) rfl ?_
      obtain ⟨x15, ex15, hf⟩ := ltb_s hf
      refine e_istore dX12_years_107 (by decide) ex15.symm (ls' := [(0, .ref 101), (2, .int v2), (3, .int v3), (4, .int v4), (5, .int v5), (6, .int v6), (7, .int x15), (8, .int v8)]) [1, 2, 3, 4, 5, 6, 0, 7] rfl (pc2 := 109) rfl ?_
      obtain ⟨x16, ex16, hf⟩ := ltb_s hf
      refine e_iinc dX12_years_109 7 rfl (c9 := 1) (by decide) ex16.symm (by decide) (ls' := [(0, .ref 101), (2, .int v2), (3, .int v3), (4, .int v4), (5, .int v5), (6, .int v6), (7, .int x15), (8, .int x16)]) [1, 2, 3, 4, 5, 6, 7, 0] rfl (pc2 := 112) rfl ?_
      refine e_goto (tgt := 69) dX12_years_112 (by decide) ?_
      exact hk69 x15 x16 s12 hf
    · have hf := if_f c14 hf
      refine e_iconst (x := 1) dX12_years_98 (by decide) (pc2 := 99) rfl ?_
      refine e_iload dX12_years_99 7 rfl (pc2 := 101) rfl ?_
      refine e_ishl dX12_years_101 (pc2 := 102) rfl ?_
      refine e_goto (tgt := 106) dX12_years_102 (by decide) ?_
      refine e_ior dX12_years_106 (pc2 := 107) rfl ?_
      obtain ⟨x17, ex17, hf⟩ := ltb_s hf
      refine e_istore dX12_years_107 (by decide) ex17.symm (ls' := [(0, .ref 101), (2, .int v2), (3, .int v3), (4, .int v4), (5, .int v5), (6, .int v6), (7, .int x17), (8, .int v8)]) [1, 2, 3, 4, 5, 6, 0, 7] rfl (pc2 := 109) rfl ?_
      obtain ⟨x18, ex18, hf⟩ := ltb_s hf
      refine e_iinc dX12_years_109 7 rfl (c9 := 1) (by decide) ex18.symm (by decide) (ls' := [(0, .ref 101), (2, .int v2), (3, .int v3), (4, .int v4), (5, .int v5), (6, .int v6), (7, .int x17), (8, .int x18)]) [1, 2, 3, 4, 5, 6, 7, 0] rfl (pc2 := 112) rfl ?_
      refine e_goto (tgt := 69) dX12_years_112 (by decide) ?_
      exact hk69 x17 x18 s12 hf
def f_X12_years_l69 (v2 : Int32) (v3 : Int32) (v4 : Int32) (v5 : Int32) (v6 : Int32) (k115 : Int32 → HS → Option (Int32 × HS)) : Nat → Int32 → Int32 → HS → Option (Int32 × HS)
  | 0, _, _, _ => none
  | n + 1, v7, v8, s => f_X12_years_l69b v2 v3 v4 v5 v6 v7 v8 (f_X12_years_l69 v2 v3 v4 v5 v6 k115 n) k115 s
set_option maxRecDepth 20000 in
set_option maxHeartbeats 2000000 in
theorem t_X12_years_l69 (v2 : Int32) (v3 : Int32) (v4 : Int32) (v5 : Int32) (v6 : Int32) {x : Int32} {t : HS} (k115 : Int32 → HS → Option (Int32 × HS)) (hk115 : ∀ (a7 : Int32) (s : HS), k115 a7 s = some (x, t) → Ev DDX12_years miX12_years NF (some (.int x)) NF (hp t) 115 NF [(0, .ref 101), (2, .int v2), (3, .int v3), (4, .int v4), (5, .int v5), (6, .int v6), (7, .int a7)] [] (hp s)) : ∀ (n : Nat) (v7 : Int32) (v8 : Int32) (s : HS), f_X12_years_l69 v2 v3 v4 v5 v6 k115 n v7 v8 s = some (x, t) → Ev DDX12_years miX12_years NF (some (.int x)) NF (hp t) 69 NF [(0, .ref 101), (2, .int v2), (3, .int v3), (4, .int v4), (5, .int v5), (6, .int v6), (7, .int v7), (8, .int v8)] [] (hp s) := by
  intro n
  induction n with
  | zero =>
    intro v7 v8 s hf
    have hf : none = some (x, t) := hf
    cases hf
  | succ n ih =>
    intro v7 v8 s hf
    exact t_X12_years_l69b v2 v3 v4 v5 v6 v7 v8  s _ ih _ hk115 hf
def f_X12_years_l57b (v2 : Int32) (v3 : Int32) (v4 : Int32) (v5 : Int32) (v6 : Int32) (k57 : Int32 → Int32 → HS → Option (Int32 × HS)) (k165 : Int32 → HS → Option (Int32 × HS)) (s : HS) : Option (Int32 × HS) :=
  (if v2 ≤ v6 then k165 v5 s else f_X12_years_l69 v2 v3 v4 v5 v6 (fun v19 s20 => ltb (sI s20 145 (0) v19) fun s21 => bnd (f_X12_runs s21) fun s23 => (if v3 = 0 then bnd (f_X12_pence s23) fun y32 => ltb (v5 + y32) fun x33 => ltb (v6 + 1) fun x34 => k57 x33 x34 s23 else (if v3 = 1 then bnd (f_X12_drunkInAll s23) fun y29 => ltb (v5 + y29) fun x30 => ltb (v6 + 1) fun x31 => k57 x30 x31 s23 else bnd (f_X12_behindInAll s23) fun y26 => ltb (v5 + y26) fun x27 => ltb (v6 + 1) fun x28 => k57 x27 x28 s23))) FU 0 0 s)
set_option maxRecDepth 20000 in
set_option maxHeartbeats 2000000 in
theorem t_X12_years_l57b (v2 : Int32) (v3 : Int32) (v4 : Int32) (v5 : Int32) (v6 : Int32) (s : HS) {x : Int32} {t : HS} (k57 : Int32 → Int32 → HS → Option (Int32 × HS)) (hk57 : ∀ (a5 : Int32) (a6 : Int32) (s : HS), k57 a5 a6 s = some (x, t) → Ev DDX12_years miX12_years NF (some (.int x)) NF (hp t) 57 NF [(0, .ref 101), (2, .int v2), (3, .int v3), (4, .int v4), (5, .int a5), (6, .int a6)] [] (hp s)) (k165 : Int32 → HS → Option (Int32 × HS)) (hk165 : ∀ (a5 : Int32) (s : HS), k165 a5 s = some (x, t) → Ev DDX12_years miX12_years NF (some (.int x)) NF (hp t) 165 NF [(0, .ref 101), (4, .int v4), (5, .int a5)] [] (hp s)) (hf : f_X12_years_l57b v2 v3 v4 v5 v6 k57 k165 s = some (x, t)) : Ev DDX12_years miX12_years NF (some (.int x)) NF (hp t) 57 NF [(0, .ref 101), (2, .int v2), (3, .int v3), (4, .int v4), (5, .int v5), (6, .int v6)] [] (hp s) := by
  refine e_iload dX12_years_57 5 rfl (pc2 := 59) rfl ?_
  refine e_iload_n dX12_years_59 1 rfl rfl (pc2 := 60) rfl ?_
  refine e_icmp_ge (tgt := 165) dX12_years_60 (by decide) (pc2 := 63) rfl (fun c8 => ?_) (fun c8 => ?_)
  · have hf := if_t c8 hf
    refine ev_sub [0, 3, 4] rfl ?_
    exact hk165 v5 s hf
  · have hf := if_f c8 hf
    refine e_iconst (x := 0) dX12_years_63 (by decide) (pc2 := 64) rfl ?_
    refine e_istore dX12_years_64 (by decide) rfl (ls' := [(0, .ref 101), (2, .int v2), (3, .int v3), (4, .int v4), (5, .int v5), (6, .int v6), (7, .int 0)]) [1, 2, 3, 4, 5, 6, 0] rfl (pc2 := 66) rfl ?_
    refine e_iconst (x := 0) dX12_years_66 (by decide) (pc2 := 67) rfl ?_
    refine e_istore dX12_years_67 (by decide) rfl (ls' := [(0, .ref 101), (2, .int v2), (3, .int v3), (4, .int v4), (5, .int v5), (6, .int v6), (7, .int 0), (8, .int 0)]) [1, 2, 3, 4, 5, 6, 7, 0] rfl (pc2 := 69) rfl ?_
    refine t_X12_years_l69 v2 v3 v4 v5 v6 _ ?_ FU 0 0 s hf
    · intro v19 s20 hf
      refine e_aload_n dX12_years_115 0 rfl rfl (pc2 := 116) rfl ?_
      refine e_getR (r := 145) fl_X12_141 dX12_years_116 so_101 (rs_101_55 s20.2.2) (by decide) (pc2 := 119) rfl ?_
      refine e_iconst (x := 0) dX12_years_119 (by decide) (pc2 := 120) rfl ?_
      refine e_iload dX12_years_120 6 rfl (pc2 := 122) rfl ?_
      obtain ⟨s21, es21, hf⟩ := ltb_s hf
      refine e_iast dX12_years_122 sa_145 (inb_v (by decide)) (h2 := hp s21) (by rw [es21]; rfl) (pc2 := 123) rfl ?_
      refine e_aload_n dX12_years_123 0 rfl rfl (pc2 := 124) rfl ?_
      obtain ⟨s23, hy22, hf⟩ := bnd_s hf
      refine e_callVn (t_X12_runs  s21 hy22) dX12_years_124 cv_X12_528 rfl so_101 rc_11 (by decide) (by first | exact Nat.le_of_ble_eq_true rfl | simp [rva_cat, vc_i, vc_r, vc_l, vc_n]) nn0 rfl (pc2 := 127) rfl ?_
      refine e_iload dX12_years_127 4 rfl (pc2 := 129) rfl ?_
      refine e_iload_n dX12_years_129 2 rfl rfl (pc2 := 130) rfl ?_
      refine e_if_ne (tgt := 140) dX12_years_130 (by decide) (pc2 := 133) rfl (fun c24 => ?_) (fun c24 => ?_)
      · have hf := if_f c24 hf
        refine e_iload_n dX12_years_140 2 rfl rfl (pc2 := 141) rfl ?_
        refine e_iconst (x := 1) dX12_years_141 (by decide) (pc2 := 142) rfl ?_
        refine e_icmp_ne (tgt := 152) dX12_years_142 (by decide) (pc2 := 145) rfl (fun c25 => ?_) (fun c25 => ?_)
        · have hf := if_f c25 hf
          refine e_aload_n dX12_years_152 0 rfl rfl (pc2 := 153) rfl ?_
          obtain ⟨y26, hy26, hf⟩ := bnd_s hf
          refine e_callVs (t_X12_behindInAll  s23 hy26) dX12_years_153 cv_X12_549 rfl so_101 rc_11 (by decide) (by first | exact Nat.le_of_ble_eq_true rfl | simp [rva_cat, vc_i, vc_r, vc_l, vc_n]) nn0 rfl (pc2 := 156) rfl ?_
          refine e_iadd dX12_years_156 (pc2 := 157) rfl ?_
          obtain ⟨x27, ex27, hf⟩ := ltb_s hf
          refine e_istore dX12_years_157 (by decide) ex27.symm (ls' := [(0, .ref 101), (2, .int v2), (3, .int v3), (4, .int v4), (5, .int x27), (6, .int v6)]) [1, 2, 3, 4, 0, 5] rfl (pc2 := 159) rfl ?_
          obtain ⟨x28, ex28, hf⟩ := ltb_s hf
          refine e_iinc dX12_years_159 5 rfl (c9 := 1) (by decide) ex28.symm (by decide) (ls' := [(0, .ref 101), (2, .int v2), (3, .int v3), (4, .int v4), (5, .int x27), (6, .int x28)]) [1, 2, 3, 4, 5, 0] rfl (pc2 := 162) rfl ?_
          refine e_goto (tgt := 57) dX12_years_162 (by decide) ?_
          exact hk57 x27 x28 s23 hf
        · have hf := if_t c25 hf
          refine e_aload_n dX12_years_145 0 rfl rfl (pc2 := 146) rfl ?_
          obtain ⟨y29, hy29, hf⟩ := bnd_s hf
          refine e_callVs (t_X12_drunkInAll  s23 hy29) dX12_years_146 cv_X12_540 rfl so_101 rc_11 (by decide) (by first | exact Nat.le_of_ble_eq_true rfl | simp [rva_cat, vc_i, vc_r, vc_l, vc_n]) nn0 rfl (pc2 := 149) rfl ?_
          refine e_goto (tgt := 156) dX12_years_149 (by decide) ?_
          refine e_iadd dX12_years_156 (pc2 := 157) rfl ?_
          obtain ⟨x30, ex30, hf⟩ := ltb_s hf
          refine e_istore dX12_years_157 (by decide) ex30.symm (ls' := [(0, .ref 101), (2, .int v2), (3, .int v3), (4, .int v4), (5, .int x30), (6, .int v6)]) [1, 2, 3, 4, 0, 5] rfl (pc2 := 159) rfl ?_
          obtain ⟨x31, ex31, hf⟩ := ltb_s hf
          refine e_iinc dX12_years_159 5 rfl (c9 := 1) (by decide) ex31.symm (by decide) (ls' := [(0, .ref 101), (2, .int v2), (3, .int v3), (4, .int v4), (5, .int x30), (6, .int x31)]) [1, 2, 3, 4, 5, 0] rfl (pc2 := 162) rfl ?_
          refine e_goto (tgt := 57) dX12_years_162 (by decide) ?_
          exact hk57 x30 x31 s23 hf
      · have hf := if_t c24 hf
        refine e_aload_n dX12_years_133 0 rfl rfl (pc2 := 134) rfl ?_
        obtain ⟨y32, hy32, hf⟩ := bnd_s hf
        refine e_callVs (t_X12_pence  s23 hy32) dX12_years_134 cv_X12_534 rfl so_101 rc_11 (by decide) (by first | exact Nat.le_of_ble_eq_true rfl | simp [rva_cat, vc_i, vc_r, vc_l, vc_n]) nn0 rfl (pc2 := 137) rfl ?_
        refine e_goto (tgt := 156) dX12_years_137 (by decide) ?_
        refine e_iadd dX12_years_156 (pc2 := 157) rfl ?_
        obtain ⟨x33, ex33, hf⟩ := ltb_s hf
        refine e_istore dX12_years_157 (by decide) ex33.symm (ls' := [(0, .ref 101), (2, .int v2), (3, .int v3), (4, .int v4), (5, .int x33), (6, .int v6)]) [1, 2, 3, 4, 0, 5] rfl (pc2 := 159) rfl ?_
        obtain ⟨x34, ex34, hf⟩ := ltb_s hf
        refine e_iinc dX12_years_159 5 rfl (c9 := 1) (by decide) ex34.symm (by decide) (ls' := [(0, .ref 101), (2, .int v2), (3, .int v3), (4, .int v4), (5, .int x33), (6, .int x34)]) [1, 2, 3, 4, 5, 0] rfl (pc2 := 162) rfl ?_
        refine e_goto (tgt := 57) dX12_years_162 (by decide) ?_
        exact hk57 x33 x34 s23 hf
def f_X12_years_l57 (v2 : Int32) (v3 : Int32) (v4 : Int32) (k165 : Int32 → HS → Option (Int32 × HS)) : Nat → Int32 → Int32 → HS → Option (Int32 × HS)
  | 0, _, _, _ => none
  | n + 1, v5, v6, s => f_X12_years_l57b v2 v3 v4 v5 v6 (f_X12_years_l57 v2 v3 v4 k165 n) k165 s
set_option maxRecDepth 20000 in
set_option maxHeartbeats 2000000 in
theorem t_X12_years_l57 (v2 : Int32) (v3 : Int32) (v4 : Int32) {x : Int32} {t : HS} (k165 : Int32 → HS → Option (Int32 × HS)) (hk165 : ∀ (a5 : Int32) (s : HS), k165 a5 s = some (x, t) → Ev DDX12_years miX12_years NF (some (.int x)) NF (hp t) 165 NF [(0, .ref 101), (4, .int v4), (5, .int a5)] [] (hp s)) : ∀ (n : Nat) (v5 : Int32) (v6 : Int32) (s : HS), f_X12_years_l57 v2 v3 v4 k165 n v5 v6 s = some (x, t) → Ev DDX12_years miX12_years NF (some (.int x)) NF (hp t) 57 NF [(0, .ref 101), (2, .int v2), (3, .int v3), (4, .int v4), (5, .int v5), (6, .int v6)] [] (hp s) := by
  intro n
  induction n with
  | zero =>
    intro v5 v6 s hf
    have hf : none = some (x, t) := hf
    cases hf
  | succ n ih =>
    intro v5 v6 s hf
    exact t_X12_years_l57b v2 v3 v4 v5 v6  s _ ih _ hk165 hf
def f_X12_years (v1 : Int32) (v2 : Int32) (v3 : Int32) (s : HS) : Option (Int32 × HS) :=
  ltb (sI s 101 0 0) fun s1 => (if (f_X12_within v1 0 9999 s1) = 0 then some ((-1), s1) else (if (f_X12_within v2 1 60 s1) = 0 then some ((-1), s1) else (if (f_X12_within v3 0 2 s1) = 0 then some ((-1), s1) else ltb (sL s1 101 77 ((v1 : Int32).toInt64)) fun s5 => ltb (s5.1 145 0) fun x7 => f_X12_years_l57 v2 v3 x7 (fun v35 s36 => ltb (sI s36 145 (0) x7) fun s37 => some (v35, s37)) FU 0 0 s5)))
set_option maxRecDepth 20000 in
set_option maxHeartbeats 2000000 in
theorem t_X12_years (v1 : Int32) (v2 : Int32) (v3 : Int32) (s : HS) {x : Int32} {t : HS} (hf : f_X12_years  v1 v2 v3 s = some (x, t)) : Mt DDX12_years miX12_years [.ref 101, .int v1, .int v2, .int v3] NF (hp s) (some (.int x)) NF (hp t) := by
  refine Mt.of (by decide +kernel) (Nat.le_refl _) (Nat.le_of_ble_eq_true rfl) ?_
  show Ev DDX12_years miX12_years NF (some (.int x)) NF (hp t) 0 NF [(0, .ref 101), (1, .int v1), (2, .int v2), (3, .int v3)] [] (hp s)
  unfold f_X12_years at hf
  refine e_aload_n dX12_years_0 0 rfl rfl (pc2 := 1) rfl ?_
  refine e_iconst (x := 0) dX12_years_1 (by decide) (pc2 := 2) rfl ?_
  obtain ⟨s1, es1, hf⟩ := ltb_s hf
  refine e_putI fl_X12_194 dX12_years_2 so_101 fn_11_0 (h2 := hp s1) (by rw [es1]; rfl) (pc2 := 5) rfl ?_
  refine e_iload_n dX12_years_5 1 rfl rfl (pc2 := 6) rfl ?_
  refine e_iconst (x := 0) dX12_years_6 (by decide) (pc2 := 7) rfl ?_
  refine e_sipush (x := 9999) dX12_years_7 (by decide) (pc2 := 10) rfl ?_
  refine e_callSs (t_X12_within v1 0 9999 s1 rfl) dX12_years_10 cs_X12_343 rfl (by decide) (by first | exact Nat.le_of_ble_eq_true rfl | simp [rva_cat, vc_i, vc_r, vc_l, vc_n]) nn0 rfl (pc2 := 13) rfl ?_
  refine e_if_eq (tgt := 35) dX12_years_13 (by decide) (pc2 := 16) rfl (fun c2 => ?_) (fun c2 => ?_)
  · have hf := if_t c2 hf
    refine e_iconst (x := (-1)) dX12_years_35 (by decide) (pc2 := 36) rfl ?_
    cases hf
    exact e_iret rfl dX12_years_36
  · have hf := if_f c2 hf
    refine e_iload_n dX12_years_16 2 rfl rfl (pc2 := 17) rfl ?_
    refine e_iconst (x := 1) dX12_years_17 (by decide) (pc2 := 18) rfl ?_
    refine e_bipush (x := 60) dX12_years_18 (by decide) (pc2 := 20) rfl ?_
    refine e_callSs (t_X12_within v2 1 60 s1 rfl) dX12_years_20 cs_X12_343 rfl (by decide) (by first | exact Nat.le_of_ble_eq_true rfl | simp [rva_cat, vc_i, vc_r, vc_l, vc_n]) nn0 rfl (pc2 := 23) rfl ?_
    refine e_if_eq (tgt := 35) dX12_years_23 (by decide) (pc2 := 26) rfl (fun c3 => ?_) (fun c3 => ?_)
    · have hf := if_t c3 hf
      refine e_iconst (x := (-1)) dX12_years_35 (by decide) (pc2 := 36) rfl ?_
      cases hf
      exact e_iret rfl dX12_years_36
    · have hf := if_f c3 hf
      refine e_iload_n dX12_years_26 3 rfl rfl (pc2 := 27) rfl ?_
      refine e_iconst (x := 0) dX12_years_27 (by decide) (pc2 := 28) rfl ?_
      refine e_iconst (x := 2) dX12_years_28 (by decide) (pc2 := 29) rfl ?_
      refine e_callSs (t_X12_within v3 0 2 s1 rfl) dX12_years_29 cs_X12_343 rfl (by decide) (by first | exact Nat.le_of_ble_eq_true rfl | simp [rva_cat, vc_i, vc_r, vc_l, vc_n]) nn0 rfl (pc2 := 32) rfl ?_
      refine e_if_ne (tgt := 37) dX12_years_32 (by decide) (pc2 := 35) rfl (fun c4 => ?_) (fun c4 => ?_)
      · have hf := if_f c4 hf
        refine e_aload_n dX12_years_37 0 rfl rfl (pc2 := 38) rfl ?_
        refine e_iload_n dX12_years_38 1 rfl rfl (pc2 := 39) rfl ?_
        refine e_i2l dX12_years_39 (pc2 := 40) rfl ?_
        obtain ⟨s5, es5, hf⟩ := ltb_s hf
        refine e_putL fl_X12_578 dX12_years_40 so_101 fn_11_77 (h2 := hp s5) (by rw [es5]; rfl) (pc2 := 43) rfl ?_
        refine e_aload_n dX12_years_43 0 rfl rfl (pc2 := 44) rfl ?_
        refine e_getR (r := 145) fl_X12_141 dX12_years_44 so_101 (rs_101_55 s5.2.2) (by decide) (pc2 := 47) rfl ?_
        refine e_iconst (x := 0) dX12_years_47 (by decide) (pc2 := 48) rfl ?_
        refine e_iald dX12_years_48 sa_145 (inb_v (by decide)) (pc2 := 49) rfl ?_
        obtain ⟨x7, ex7, hf⟩ := ltb_s hf
        refine e_istore dX12_years_49 (by decide) ex7.symm (ls' := [(0, .ref 101), (2, .int v2), (3, .int v3), (4, .int x7)]) [1, 3, 4, 0] rfl (pc2 := 51) rfl ?_
        refine e_iconst (x := 0) dX12_years_51 (by decide) (pc2 := 52) rfl ?_
        refine e_istore dX12_years_52 (by decide) rfl (ls' := [(0, .ref 101), (2, .int v2), (3, .int v3), (4, .int x7), (5, .int 0)]) [1, 2, 3, 4, 0] rfl (pc2 := 54) rfl ?_
        refine e_iconst (x := 0) dX12_years_54 (by decide) (pc2 := 55) rfl ?_
        refine e_istore dX12_years_55 (by decide) rfl (ls' := [(0, .ref 101), (2, .int v2), (3, .int v3), (4, .int x7), (5, .int 0), (6, .int 0)]) [1, 2, 3, 4, 5, 0] rfl (pc2 := 57) rfl ?_
        refine t_X12_years_l57 v2 v3 x7 _ ?_ FU 0 0 s5 hf
        · intro v35 s36 hf
          refine e_aload_n dX12_years_165 0 rfl rfl (pc2 := 166) rfl ?_
          refine e_getR (r := 145) fl_X12_141 dX12_years_166 so_101 (rs_101_55 s36.2.2) (by decide) (pc2 := 169) rfl ?_
          refine e_iconst (x := 0) dX12_years_169 (by decide) (pc2 := 170) rfl ?_
          refine e_iload dX12_years_170 1 rfl (pc2 := 172) rfl ?_
          obtain ⟨s37, es37, hf⟩ := ltb_s hf
          refine e_iast dX12_years_172 sa_145 (inb_v (by decide)) (h2 := hp s37) (by rw [es37]; rfl) (pc2 := 173) rfl ?_
          refine e_iload dX12_years_173 2 rfl (pc2 := 175) rfl ?_
          cases hf
          exact e_iret rfl dX12_years_175
      · have hf := if_t c4 hf
        refine e_iconst (x := (-1)) dX12_years_35 (by decide) (pc2 := 36) rfl ?_
        cases hf
        exact e_iret rfl dX12_years_36
abbrev DDX12_mark : Nat := 2
def f_X12_mark_j59 (v1 : Int32) (v2 : Int32) (v3 : Int32) (w0 : Int32) (s : HS) : Option (Int32 × HS) :=
  bnd (f_X12_laysLines v3 w0 s) fun s9 => bnd (f_X12_laysTold v3 w0 s9) fun s11 => (if v2 = 0 then bnd (f_X12_copies 145 0 147 (9 * v1) s11) fun s14 => some (1, s14) else bnd (f_X12_copies 147 (9 * v1) 145 0 s11) fun s16 => ltb (sI s16 101 60 0) fun s17 => some (1, s17))
set_option maxRecDepth 20000 in
set_option maxHeartbeats 2000000 in
theorem t_X12_mark_j59 (v1 : Int32) (v2 : Int32) (v3 : Int32) (w0 : Int32) (s : HS) {x : Int32} {t : HS}  (hf : f_X12_mark_j59 v1 v2 v3 w0 s = some (x, t)) : Ev DDX12_mark miX12_mark NF (some (.int x)) NF (hp t) 59 NF [(0, .ref 101), (1, .int v1), (2, .int v2), (3, .int v3)] [.int w0] (hp s) := by
  refine e_istore dX12_mark_59 (by decide) rfl (ls' := [(0, .ref 101), (1, .int v1), (2, .int v2), (3, .int v3), (4, .int w0)]) [1, 2, 3, 4, 0] rfl (pc2 := 61) rfl ?_
  refine e_aload_n dX12_mark_61 0 rfl rfl (pc2 := 62) rfl ?_
  refine e_iload_n dX12_mark_62 3 rfl rfl (pc2 := 63) rfl ?_
  refine e_iload dX12_mark_63 4 rfl (pc2 := 65) rfl ?_
  obtain ⟨s9, hy8, hf⟩ := bnd_s hf
  refine e_callVn (t_X12_laysLines v3 w0 s hy8) dX12_mark_65 cv_X12_439 rfl so_101 rc_11 (by decide) (by first | exact Nat.le_of_ble_eq_true rfl | simp [rva_cat, vc_i, vc_r, vc_l, vc_n]) nn0 rfl (pc2 := 68) rfl ?_
  refine e_aload_n dX12_mark_68 0 rfl rfl (pc2 := 69) rfl ?_
  refine e_iload_n dX12_mark_69 3 rfl rfl (pc2 := 70) rfl ?_
  refine e_iload dX12_mark_70 4 rfl (pc2 := 72) rfl ?_
  obtain ⟨s11, hy10, hf⟩ := bnd_s hf
  refine e_callVn (t_X12_laysTold v3 w0 s9 hy10) dX12_mark_72 cv_X12_592 rfl so_101 rc_11 (by decide) (by first | exact Nat.le_of_ble_eq_true rfl | simp [rva_cat, vc_i, vc_r, vc_l, vc_n]) nn0 rfl (pc2 := 75) rfl ?_
  refine e_iload_n dX12_mark_75 2 rfl rfl (pc2 := 76) rfl ?_
  refine e_if_eq (tgt := 103) dX12_mark_76 (by decide) (pc2 := 79) rfl (fun c12 => ?_) (fun c12 => ?_)
  · have hf := if_t c12 hf
    refine e_aload_n dX12_mark_103 0 rfl rfl (pc2 := 104) rfl ?_
    refine e_getR (r := 145) fl_X12_141 dX12_mark_104 so_101 (rs_101_55 s11.2.2) (by decide) (pc2 := 107) rfl ?_
    refine e_iconst (x := 0) dX12_mark_107 (by decide) (pc2 := 108) rfl ?_
    refine e_aload_n dX12_mark_108 0 rfl rfl (pc2 := 109) rfl ?_
    refine e_getR (r := 147) fl_X12_147 dX12_mark_109 so_101 (rs_101_57 s11.2.2) (by decide) (pc2 := 112) rfl ?_
    refine e_bipush (x := 9) dX12_mark_112 (by decide) (pc2 := 114) rfl ?_
    refine e_iload_n dX12_mark_114 1 rfl rfl (pc2 := 115) rfl ?_
    refine e_imul dX12_mark_115 (pc2 := 116) rfl ?_
    obtain ⟨s14, hy13, hf⟩ := bnd_s hf
    refine e_callSn (t_X12_copies 145 (by decide) 0 147 (by decide) (9 * v1) s11 hy13) dX12_mark_116 cs_X12_513 rfl (by decide) (by first | exact Nat.le_of_ble_eq_true rfl | simp [rva_cat, vc_i, vc_r, vc_l, vc_n]) nn0 rfl (pc2 := 119) rfl ?_
    refine e_iconst (x := 1) dX12_mark_119 (by decide) (pc2 := 120) rfl ?_
    cases hf
    exact e_zret (by decide) rfl dX12_mark_120
  · have hf := if_f c12 hf
    refine e_aload_n dX12_mark_79 0 rfl rfl (pc2 := 80) rfl ?_
    refine e_getR (r := 147) fl_X12_147 dX12_mark_80 so_101 (rs_101_57 s11.2.2) (by decide) (pc2 := 83) rfl ?_
    refine e_bipush (x := 9) dX12_mark_83 (by decide) (pc2 := 85) rfl ?_
    refine e_iload_n dX12_mark_85 1 rfl rfl (pc2 := 86) rfl ?_
    refine e_imul dX12_mark_86 (pc2 := 87) rfl ?_
    refine e_aload_n dX12_mark_87 0 rfl rfl (pc2 := 88) rfl ?_
    refine e_getR (r := 145) fl_X12_141 dX12_mark_88 so_101 (rs_101_55 s11.2.2) (by decide) (pc2 := 91) rfl ?_
    refine e_iconst (x := 0) dX12_mark_91 (by decide) (pc2 := 92) rfl ?_
    obtain ⟨s16, hy15, hf⟩ := bnd_s hf
    refine e_callSn (t_X12_copies 147 (by decide) (9 * v1) 145 (by decide) 0 s11 hy15) dX12_mark_92 cs_X12_513 rfl (by decide) (by first | exact Nat.le_of_ble_eq_true rfl | simp [rva_cat, vc_i, vc_r, vc_l, vc_n]) nn0 rfl (pc2 := 95) rfl ?_
    refine e_aload_n dX12_mark_95 0 rfl rfl (pc2 := 96) rfl ?_
    refine e_iconst (x := 0) dX12_mark_96 (by decide) (pc2 := 97) rfl ?_
    obtain ⟨s17, es17, hf⟩ := ltb_s hf
    refine e_putI fl_X12_433 dX12_mark_97 so_101 fn_11_60 (h2 := hp s17) (by rw [es17]; rfl) (pc2 := 100) rfl ?_
    refine e_goto (tgt := 119) dX12_mark_100 (by decide) ?_
    refine e_iconst (x := 1) dX12_mark_119 (by decide) (pc2 := 120) rfl ?_
    cases hf
    exact e_zret (by decide) rfl dX12_mark_120
def f_X12_mark_j47 (v1 : Int32) (v2 : Int32) (w0 : Int32) (s : HS) : Option (Int32 × HS) :=
  (if v2 = 0 then f_X12_mark_j59 v1 v2 w0 (1 + v1) s else f_X12_mark_j59 v1 v2 w0 0 s)
set_option maxRecDepth 20000 in
set_option maxHeartbeats 2000000 in
theorem t_X12_mark_j47 (v1 : Int32) (v2 : Int32) (w0 : Int32) (s : HS) {x : Int32} {t : HS}  (hf : f_X12_mark_j47 v1 v2 w0 s = some (x, t)) : Ev DDX12_mark miX12_mark NF (some (.int x)) NF (hp t) 47 NF [(0, .ref 101), (1, .int v1), (2, .int v2)] [.int w0] (hp s) := by
  refine e_istore_n dX12_mark_47 rfl (by decide) rfl (ls' := [(0, .ref 101), (1, .int v1), (2, .int v2), (3, .int w0)]) [1, 2, 3, 0] rfl (pc2 := 48) rfl ?_
  refine e_iload_n dX12_mark_48 2 rfl rfl (pc2 := 49) rfl ?_
  refine e_if_eq (tgt := 56) dX12_mark_49 (by decide) (pc2 := 52) rfl (fun c7 => ?_) (fun c7 => ?_)
  · have hf := if_t c7 hf
    refine e_iconst (x := 1) dX12_mark_56 (by decide) (pc2 := 57) rfl ?_
    refine e_iload_n dX12_mark_57 1 rfl rfl (pc2 := 58) rfl ?_
    refine e_iadd dX12_mark_58 (pc2 := 59) rfl ?_
    exact t_X12_mark_j59 v1 v2 w0 (1 + v1) s hf
  · have hf := if_f c7 hf
    refine e_iconst (x := 0) dX12_mark_52 (by decide) (pc2 := 53) rfl ?_
    refine e_goto (tgt := 59) dX12_mark_53 (by decide) ?_
    exact t_X12_mark_j59 v1 v2 w0 0 s hf
def f_X12_mark_j29 (v1 : Int32) (v2 : Int32) (s : HS) : Option (Int32 × HS) :=
  gd (inb v1 4) (ltb (sI s 149 (v1.toNatClampNeg) (vp_nar .boolean 1)) fun s4 => (if v2 = 0 then f_X12_mark_j47 v1 v2 0 s4 else f_X12_mark_j47 v1 v2 (1 + v1) s4))
set_option maxRecDepth 20000 in
set_option maxHeartbeats 2000000 in
theorem t_X12_mark_j29 (v1 : Int32) (v2 : Int32) (s : HS) {x : Int32} {t : HS}  (hf : f_X12_mark_j29 v1 v2 s = some (x, t)) : Ev DDX12_mark miX12_mark NF (some (.int x)) NF (hp t) 29 NF [(0, .ref 101), (1, .int v1), (2, .int v2)] [] (hp s) := by
  refine e_aload_n dX12_mark_29 0 rfl rfl (pc2 := 30) rfl ?_
  refine e_getR (r := 149) fl_X12_153 dX12_mark_30 so_101 (rs_101_59 s.2.2) (by decide) (pc2 := 33) rfl ?_
  refine e_iload_n dX12_mark_33 1 rfl rfl (pc2 := 34) rfl ?_
  refine e_iconst (x := 1) dX12_mark_34 (by decide) (pc2 := 35) rfl ?_
  obtain ⟨g5, hf⟩ := gd_some hf
  obtain ⟨s4, es4, hf⟩ := ltb_s hf
  refine e_zast dX12_mark_35 sa_149 (inb_v g5) (h2 := hp s4) (by rw [es4]; rfl) (pc2 := 36) rfl ?_
  refine e_iload_n dX12_mark_36 2 rfl rfl (pc2 := 37) rfl ?_
  refine e_if_eq (tgt := 46) dX12_mark_37 (by decide) (pc2 := 40) rfl (fun c6 => ?_) (fun c6 => ?_)
  · have hf := if_t c6 hf
    refine e_iconst (x := 0) dX12_mark_46 (by decide) (pc2 := 47) rfl ?_
    exact t_X12_mark_j47 v1 v2 0 s4 hf
  · have hf := if_f c6 hf
    refine e_iconst (x := 1) dX12_mark_40 (by decide) (pc2 := 41) rfl ?_
    refine e_iload_n dX12_mark_41 1 rfl rfl (pc2 := 42) rfl ?_
    refine e_iadd dX12_mark_42 (pc2 := 43) rfl ?_
    refine e_goto (tgt := 47) dX12_mark_43 (by decide) ?_
    exact t_X12_mark_j47 v1 v2 (1 + v1) s4 hf
def f_X12_mark (v1 : Int32) (v2 : Int32) (s : HS) : Option (Int32 × HS) :=
  ltb (sI s 101 0 0) fun s1 => (if (f_X12_within v1 0 3 s1) = 0 then some (0, s1) else (if v2 = 0 then f_X12_mark_j29 v1 v2 s1 else gd (inb v1 4) ((if (s1.1 149 v1.toNatClampNeg) = 0 then some (0, s1) else f_X12_mark_j29 v1 v2 s1))))
set_option maxRecDepth 20000 in
set_option maxHeartbeats 2000000 in
theorem t_X12_mark (v1 : Int32) (v2 : Int32) (s : HS) {x : Int32} {t : HS} (hf : f_X12_mark  v1 v2 s = some (x, t)) : Mt DDX12_mark miX12_mark [.ref 101, .int v1, .int v2] NF (hp s) (some (.int x)) NF (hp t) := by
  refine Mt.of (by decide +kernel) (Nat.le_refl _) (Nat.le_of_ble_eq_true rfl) ?_
  show Ev DDX12_mark miX12_mark NF (some (.int x)) NF (hp t) 0 NF [(0, .ref 101), (1, .int v1), (2, .int v2)] [] (hp s)
  unfold f_X12_mark at hf
  refine e_aload_n dX12_mark_0 0 rfl rfl (pc2 := 1) rfl ?_
  refine e_iconst (x := 0) dX12_mark_1 (by decide) (pc2 := 2) rfl ?_
  obtain ⟨s1, es1, hf⟩ := ltb_s hf
  refine e_putI fl_X12_194 dX12_mark_2 so_101 fn_11_0 (h2 := hp s1) (by rw [es1]; rfl) (pc2 := 5) rfl ?_
  refine e_iload_n dX12_mark_5 1 rfl rfl (pc2 := 6) rfl ?_
  refine e_iconst (x := 0) dX12_mark_6 (by decide) (pc2 := 7) rfl ?_
  refine e_iconst (x := 3) dX12_mark_7 (by decide) (pc2 := 8) rfl ?_
  refine e_callSs (t_X12_within v1 0 3 s1 rfl) dX12_mark_8 cs_X12_343 rfl (by decide) (by first | exact Nat.le_of_ble_eq_true rfl | simp [rva_cat, vc_i, vc_r, vc_l, vc_n]) nn0 rfl (pc2 := 11) rfl ?_
  refine e_if_eq (tgt := 27) dX12_mark_11 (by decide) (pc2 := 14) rfl (fun c2 => ?_) (fun c2 => ?_)
  · have hf := if_t c2 hf
    refine e_iconst (x := 0) dX12_mark_27 (by decide) (pc2 := 28) rfl ?_
    cases hf
    exact e_zret (by decide) rfl dX12_mark_28
  · have hf := if_f c2 hf
    refine e_iload_n dX12_mark_14 2 rfl rfl (pc2 := 15) rfl ?_
    refine e_if_eq (tgt := 29) dX12_mark_15 (by decide) (pc2 := 18) rfl (fun c3 => ?_) (fun c3 => ?_)
    · have hf := if_t c3 hf
      exact t_X12_mark_j29 v1 v2 s1 hf
    · have hf := if_f c3 hf
      refine e_aload_n dX12_mark_18 0 rfl rfl (pc2 := 19) rfl ?_
      refine e_getR (r := 149) fl_X12_153 dX12_mark_19 so_101 (rs_101_59 s1.2.2) (by decide) (pc2 := 22) rfl ?_
      refine e_iload_n dX12_mark_22 1 rfl rfl (pc2 := 23) rfl ?_
      obtain ⟨g18, hf⟩ := gd_some hf
      refine e_zald dX12_mark_23 sa_149 (inb_v g18) (pc2 := 24) rfl ?_
      refine e_if_ne (tgt := 29) dX12_mark_24 (by decide) (pc2 := 27) rfl (fun c19 => ?_) (fun c19 => ?_)
      · have hf := if_f c19 hf
        exact t_X12_mark_j29 v1 v2 s1 hf
      · have hf := if_t c19 hf
        refine e_iconst (x := 0) dX12_mark_27 (by decide) (pc2 := 28) rfl ?_
        cases hf
        exact e_zret (by decide) rfl dX12_mark_28
abbrev DDX12_count : Nat := 2
def f_X12_count (v1 : Int32) (s : HS) : Option (Int32 × HS) :=
  ltb (sI s 101 0 0) fun s1 => (if (f_X12_within v1 0 12 s1) = 0 then some ((-1), s1) else (if 4 ≤ v1 then (if 7 ≤ v1 then (if 9 ≤ v1 then (if 11 ≤ v1 then (if v1 = 11 then some (s1.1 101 60, s1) else some (s1.1 101 1, s1)) else (if v1 = 9 then some (s1.1 139 0, s1) else some (s1.1 142 0, s1))) else (if v1 = 7 then some (s1.1 145 0, s1) else some (s1.1 135 0, s1))) else (if v1 = 4 then some (s1.1 145 1, s1) else (if v1 = 5 then some (s1.1 145 2, s1) else some (s1.1 145 3, s1)))) else gd (inb v1 20) (some (s1.1 103 v1.toNatClampNeg, s1))))
set_option maxRecDepth 20000 in
set_option maxHeartbeats 2000000 in
theorem t_X12_count (v1 : Int32) (s : HS) {x : Int32} {t : HS} (hf : f_X12_count  v1 s = some (x, t)) : Mt DDX12_count miX12_count [.ref 101, .int v1] NF (hp s) (some (.int x)) NF (hp t) := by
  refine Mt.of (by decide +kernel) (Nat.le_refl _) (Nat.le_of_ble_eq_true rfl) ?_
  show Ev DDX12_count miX12_count NF (some (.int x)) NF (hp t) 0 NF [(0, .ref 101), (1, .int v1)] [] (hp s)
  unfold f_X12_count at hf
  refine e_aload_n dX12_count_0 0 rfl rfl (pc2 := 1) rfl ?_
  refine e_iconst (x := 0) dX12_count_1 (by decide) (pc2 := 2) rfl ?_
  obtain ⟨s1, es1, hf⟩ := ltb_s hf
  refine e_putI fl_X12_194 dX12_count_2 so_101 fn_11_0 (h2 := hp s1) (by rw [es1]; rfl) (pc2 := 5) rfl ?_
  refine e_iload_n dX12_count_5 1 rfl rfl (pc2 := 6) rfl ?_
  refine e_iconst (x := 0) dX12_count_6 (by decide) (pc2 := 7) rfl ?_
  refine e_bipush (x := 12) dX12_count_7 (by decide) (pc2 := 9) rfl ?_
  refine e_callSs (t_X12_within v1 0 12 s1 rfl) dX12_count_9 cs_X12_343 rfl (by decide) (by first | exact Nat.le_of_ble_eq_true rfl | simp [rva_cat, vc_i, vc_r, vc_l, vc_n]) nn0 rfl (pc2 := 12) rfl ?_
  refine e_if_ne (tgt := 17) dX12_count_12 (by decide) (pc2 := 15) rfl (fun c2 => ?_) (fun c2 => ?_)
  · have hf := if_f c2 hf
    refine e_iload_n dX12_count_17 1 rfl rfl (pc2 := 18) rfl ?_
    refine e_iconst (x := 4) dX12_count_18 (by decide) (pc2 := 19) rfl ?_
    refine e_icmp_ge (tgt := 29) dX12_count_19 (by decide) (pc2 := 22) rfl (fun c3 => ?_) (fun c3 => ?_)
    · have hf := if_t c3 hf
      refine e_iload_n dX12_count_29 1 rfl rfl (pc2 := 30) rfl ?_
      refine e_bipush (x := 7) dX12_count_30 (by decide) (pc2 := 32) rfl ?_
      refine e_icmp_ge (tgt := 60) dX12_count_32 (by decide) (pc2 := 35) rfl (fun c4 => ?_) (fun c4 => ?_)
      · have hf := if_t c4 hf
        refine e_iload_n dX12_count_60 1 rfl rfl (pc2 := 61) rfl ?_
        refine e_bipush (x := 9) dX12_count_61 (by decide) (pc2 := 63) rfl ?_
        refine e_icmp_ge (tgt := 88) dX12_count_63 (by decide) (pc2 := 66) rfl (fun c5 => ?_) (fun c5 => ?_)
        · have hf := if_t c5 hf
          refine e_iload_n dX12_count_88 1 rfl rfl (pc2 := 89) rfl ?_
          refine e_bipush (x := 11) dX12_count_89 (by decide) (pc2 := 91) rfl ?_
          refine e_icmp_ge (tgt := 116) dX12_count_91 (by decide) (pc2 := 94) rfl (fun c6 => ?_) (fun c6 => ?_)
          · have hf := if_t c6 hf
            refine e_iload_n dX12_count_116 1 rfl rfl (pc2 := 117) rfl ?_
            refine e_bipush (x := 11) dX12_count_117 (by decide) (pc2 := 119) rfl ?_
            refine e_icmp_ne (tgt := 129) dX12_count_119 (by decide) (pc2 := 122) rfl (fun c7 => ?_) (fun c7 => ?_)
            · have hf := if_f c7 hf
              refine e_aload_n dX12_count_129 0 rfl rfl (pc2 := 130) rfl ?_
              refine e_getI fl_X12_199 dX12_count_130 so_101 (by decide) (pc2 := 133) rfl ?_
              cases hf
              exact e_iret rfl dX12_count_133
            · have hf := if_t c7 hf
              refine e_aload_n dX12_count_122 0 rfl rfl (pc2 := 123) rfl ?_
              refine e_getI fl_X12_433 dX12_count_123 so_101 (by decide) (pc2 := 126) rfl ?_
              refine e_goto (tgt := 133) dX12_count_126 (by decide) ?_
              cases hf
              exact e_iret rfl dX12_count_133
          · have hf := if_f c6 hf
            refine e_iload_n dX12_count_94 1 rfl rfl (pc2 := 95) rfl ?_
            refine e_bipush (x := 9) dX12_count_95 (by decide) (pc2 := 97) rfl ?_
            refine e_icmp_ne (tgt := 109) dX12_count_97 (by decide) (pc2 := 100) rfl (fun c8 => ?_) (fun c8 => ?_)
            · have hf := if_f c8 hf
              refine e_aload_n dX12_count_109 0 rfl rfl (pc2 := 110) rfl ?_
              refine e_getR (r := 142) fl_X12_132 dX12_count_110 so_101 (rs_101_52 s1.2.2) (by decide) (pc2 := 113) rfl ?_
              refine e_iconst (x := 0) dX12_count_113 (by decide) (pc2 := 114) rfl ?_
              refine e_iald dX12_count_114 sa_142 (inb_v (by decide)) (pc2 := 115) rfl ?_
              cases hf
              exact e_iret rfl dX12_count_115
            · have hf := if_t c8 hf
              refine e_aload_n dX12_count_100 0 rfl rfl (pc2 := 101) rfl ?_
              refine e_getR (r := 139) fl_X12_123 dX12_count_101 so_101 (rs_101_49 s1.2.2) (by decide) (pc2 := 104) rfl ?_
              refine e_iconst (x := 0) dX12_count_104 (by decide) (pc2 := 105) rfl ?_
              refine e_iald dX12_count_105 sa_139 (inb_v (by decide)) (pc2 := 106) rfl ?_
              refine e_goto (tgt := 115) dX12_count_106 (by decide) ?_
              cases hf
              exact e_iret rfl dX12_count_115
        · have hf := if_f c5 hf
          refine e_iload_n dX12_count_66 1 rfl rfl (pc2 := 67) rfl ?_
          refine e_bipush (x := 7) dX12_count_67 (by decide) (pc2 := 69) rfl ?_
          refine e_icmp_ne (tgt := 81) dX12_count_69 (by decide) (pc2 := 72) rfl (fun c11 => ?_) (fun c11 => ?_)
          · have hf := if_f c11 hf
            refine e_aload_n dX12_count_81 0 rfl rfl (pc2 := 82) rfl ?_
            refine e_getR (r := 135) fl_X12_111 dX12_count_82 so_101 (rs_101_45 s1.2.2) (by decide) (pc2 := 85) rfl ?_
            refine e_iconst (x := 0) dX12_count_85 (by decide) (pc2 := 86) rfl ?_
            refine e_iald dX12_count_86 sa_135 (inb_v (by decide)) (pc2 := 87) rfl ?_
            cases hf
            exact e_iret rfl dX12_count_87
          · have hf := if_t c11 hf
            refine e_aload_n dX12_count_72 0 rfl rfl (pc2 := 73) rfl ?_
            refine e_getR (r := 145) fl_X12_141 dX12_count_73 so_101 (rs_101_55 s1.2.2) (by decide) (pc2 := 76) rfl ?_
            refine e_iconst (x := 0) dX12_count_76 (by decide) (pc2 := 77) rfl ?_
            refine e_iald dX12_count_77 sa_145 (inb_v (by decide)) (pc2 := 78) rfl ?_
            refine e_goto (tgt := 87) dX12_count_78 (by decide) ?_
            cases hf
            exact e_iret rfl dX12_count_87
      · have hf := if_f c4 hf
        refine e_aload_n dX12_count_35 0 rfl rfl (pc2 := 36) rfl ?_
        refine e_getR (r := 145) fl_X12_141 dX12_count_36 so_101 (rs_101_55 s1.2.2) (by decide) (pc2 := 39) rfl ?_
        refine e_iload_n dX12_count_39 1 rfl rfl (pc2 := 40) rfl ?_
        refine e_iconst (x := 4) dX12_count_40 (by decide) (pc2 := 41) rfl ?_
        refine e_icmp_ne (tgt := 48) dX12_count_41 (by decide) (pc2 := 44) rfl (fun c14 => ?_) (fun c14 => ?_)
        · have hf := if_f c14 hf
          refine e_iload_n dX12_count_48 1 rfl rfl (pc2 := 49) rfl ?_
          refine e_iconst (x := 5) dX12_count_49 (by decide) (pc2 := 50) rfl ?_
          refine e_icmp_ne (tgt := 57) dX12_count_50 (by decide) (pc2 := 53) rfl (fun c15 => ?_) (fun c15 => ?_)
          · have hf := if_f c15 hf
            refine e_iconst (x := 3) dX12_count_57 (by decide) (pc2 := 58) rfl ?_
            refine e_iald dX12_count_58 sa_145 (inb_v (by decide)) (pc2 := 59) rfl ?_
            cases hf
            exact e_iret rfl dX12_count_59
          · have hf := if_t c15 hf
            refine e_iconst (x := 2) dX12_count_53 (by decide) (pc2 := 54) rfl ?_
            refine e_goto (tgt := 58) dX12_count_54 (by decide) ?_
            refine e_iald dX12_count_58 sa_145 (inb_v (by decide)) (pc2 := 59) rfl ?_
            cases hf
            exact e_iret rfl dX12_count_59
        · have hf := if_t c14 hf
          refine e_iconst (x := 1) dX12_count_44 (by decide) (pc2 := 45) rfl ?_
          refine e_goto (tgt := 58) dX12_count_45 (by decide) ?_
          refine e_iald dX12_count_58 sa_145 (inb_v (by decide)) (pc2 := 59) rfl ?_
          cases hf
          exact e_iret rfl dX12_count_59
    · have hf := if_f c3 hf
      refine e_aload_n dX12_count_22 0 rfl rfl (pc2 := 23) rfl ?_
      refine e_getR (r := 103) fl_X12_13 dX12_count_23 so_101 (rs_101_10 s1.2.2) (by decide) (pc2 := 26) rfl ?_
      refine e_iload_n dX12_count_26 1 rfl rfl (pc2 := 27) rfl ?_
      obtain ⟨g19, hf⟩ := gd_some hf
      refine e_iald dX12_count_27 sa_103 (inb_v g19) (pc2 := 28) rfl ?_
      cases hf
      exact e_iret rfl dX12_count_28
  · have hf := if_t c2 hf
    refine e_iconst (x := (-1)) dX12_count_15 (by decide) (pc2 := 16) rfl ?_
    cases hf
    exact e_iret rfl dX12_count_16
