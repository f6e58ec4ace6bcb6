abbrev DDX6_pouredBack : Nat := 1
def f_X6_pouredBack_l17b (v1 : Int32) (v2 : Int32) (v3 : Int32) (k17 : Int32 → Int32 → Option Int32) (k80 : Int32 → Option Int32) (s : HS) : Option Int32 :=
  gd (okX4 (s.2.2.2.2.1)) ((if (s.1 (s.2.2.2.2.1) 12) ≤ v3 then k80 v1 else gd (inb v2 6) ((if (((s.1 79 v2.toNatClampNeg) >>> (v3 &&& 31)) &&& (1 : Int32)) = 0 then ltb (v3 + 1) fun x7 => k17 v1 x7 else gd (okX4 (s.2.2.2.2.1)) (gd (inb v3 5) ((if (s.1 (Rf (Rf (s.2.2.2.2.1) 13) v3.toNatClampNeg) 1) = 2 then ltb (v3 + 1) fun x11 => k17 v1 x11 else gd (okX4 (s.2.2.2.2.1)) (gd (inb v3 5) (ltb (v1 + ((s.1 (Rf (Rf (s.2.2.2.2.1) 13) v3.toNatClampNeg) 3) / 2)) fun x14 => ltb (v3 + 1) fun x15 => k17 x14 x15)))))))))
set_option maxRecDepth 20000 in
set_option maxHeartbeats 2000000 in
theorem t_X6_pouredBack_l17b (v1 : Int32) (v2 : Int32) (v3 : Int32) (s : HS) {x : Int32} (k17 : Int32 → Int32 → Option Int32) (hk17 : ∀ (a1 : Int32) (a3 : Int32), k17 a1 a3 = some x → Ev DDX6_pouredBack miX6_pouredBack NF (some (.int x)) NF (hp s) 17 NF [(0, .ref 73), (1, .int a1), (2, .int v2), (3, .int a3)] [] (hp s)) (k80 : Int32 → Option Int32) (hk80 : ∀ (a1 : Int32), k80 a1 = some x → Ev DDX6_pouredBack miX6_pouredBack NF (some (.int x)) NF (hp s) 80 NF [(0, .ref 73), (1, .int a1), (2, .int v2)] [] (hp s)) (hf : f_X6_pouredBack_l17b v1 v2 v3 k17 k80 s = some x) : Ev DDX6_pouredBack miX6_pouredBack NF (some (.int x)) NF (hp s) 17 NF [(0, .ref 73), (1, .int v1), (2, .int v2), (3, .int v3)] [] (hp s) := by
  refine e_iload_n dX6_pouredBack_17 3 rfl rfl (pc2 := 18) rfl ?_
  refine e_aload_n dX6_pouredBack_18 0 rfl rfl (pc2 := 19) rfl ?_
  obtain ⟨g3, hf⟩ := gd_some hf
  refine e_getR (r := s.2.2.2.2.1) fl_X6_33 dX6_pouredBack_19 so_73 rfl (okX4_ne g3) (pc2 := 22) rfl ?_
  refine e_getI fl_X6_209 dX6_pouredBack_22 (okX4_o g3) (by decide) (pc2 := 25) rfl ?_
  refine e_icmp_ge (tgt := 80) dX6_pouredBack_25 (by decide) (pc2 := 28) rfl (fun c4 => ?_) (fun c4 => ?_)
  · have hf := if_t c4 hf
    refine ev_sub [0, 1, 2] rfl ?_
    exact hk80 v1 hf
  · have hf := if_f c4 hf
    refine e_aload_n dX6_pouredBack_28 0 rfl rfl (pc2 := 29) rfl ?_
    refine e_getR (r := 79) fl_X6_27 dX6_pouredBack_29 so_73 (rs_73_13 s.2.2) (by decide) (pc2 := 32) rfl ?_
    refine e_iload_n dX6_pouredBack_32 2 rfl rfl (pc2 := 33) rfl ?_
    obtain ⟨g5, hf⟩ := gd_some hf
    refine e_iald dX6_pouredBack_33 sa_79 (inb_v g5) (pc2 := 34) rfl ?_
    refine e_iload_n dX6_pouredBack_34 3 rfl rfl (pc2 := 35) rfl ?_
    refine e_ishr dX6_pouredBack_35 (pc2 := 36) rfl ?_
    refine e_iconst (x := 1) dX6_pouredBack_36 (by decide) (pc2 := 37) rfl ?_
    refine e_iand dX6_pouredBack_37 (pc2 := 38) rfl ?_
    refine e_if_eq (tgt := 74) dX6_pouredBack_38 (by decide) (pc2 := 41) rfl (fun c6 => ?_) (fun c6 => ?_)
    · have hf := if_t c6 hf
      obtain ⟨x7, ex7, hf⟩ := ltb_s hf
      refine e_iinc dX6_pouredBack_74 3 rfl (c9 := 1) (by decide) ex7.symm (by decide) (ls' := [(0, .ref 73), (1, .int v1), (2, .int v2), (3, .int x7)]) [1, 2, 3, 0] rfl (pc2 := 77) rfl ?_
      refine e_goto (tgt := 17) dX6_pouredBack_77 (by decide) ?_
      exact hk17 v1 x7 hf
    · have hf := if_f c6 hf
      refine e_aload_n dX6_pouredBack_41 0 rfl rfl (pc2 := 42) rfl ?_
      obtain ⟨g8, hf⟩ := gd_some hf
      refine e_getR (r := s.2.2.2.2.1) fl_X6_33 dX6_pouredBack_42 so_73 rfl (okX4_ne g8) (pc2 := 45) rfl ?_
      refine e_getR (r := Rf (s.2.2.2.2.1) 13) fl_X6_166 dX6_pouredBack_45 (okX4_o g8) (okX4_R g8) (isA_ne (okX4_thing g8)) (pc2 := 48) rfl ?_
      refine e_iload_n dX6_pouredBack_48 3 rfl rfl (pc2 := 49) rfl ?_
      obtain ⟨g9, hf⟩ := gd_some hf
      refine e_aald (r := Rf (Rf (s.2.2.2.2.1) 13) v3.toNatClampNeg) dX6_pouredBack_49 (okX4_thing g8) (by decide) (inb_v g9) (Rs_na (q := s.2.2) (okX4_thing g8) (by decide)) (okX9_ne (okX4_thing_el g8 (inb_v g9))) (pc2 := 50) rfl ?_
      refine e_getI fl_X6_199 dX6_pouredBack_50 (okX9_o (okX4_thing_el g8 (inb_v g9))) (by decide) (pc2 := 53) rfl ?_
      refine e_iconst (x := 2) dX6_pouredBack_53 (by decide) (pc2 := 54) rfl ?_
      refine e_icmp_eq (tgt := 74) dX6_pouredBack_54 (by decide) (pc2 := 57) rfl (fun c10 => ?_) (fun c10 => ?_)
      · have hf := if_t c10 hf
        obtain ⟨x11, ex11, hf⟩ := ltb_s hf
        refine e_iinc dX6_pouredBack_74 3 rfl (c9 := 1) (by decide) ex11.symm (by decide) (ls' := [(0, .ref 73), (1, .int v1), (2, .int v2), (3, .int x11)]) [1, 2, 3, 0] rfl (pc2 := 77) rfl ?_
        refine e_goto (tgt := 17) dX6_pouredBack_77 (by decide) ?_
        exact hk17 v1 x11 hf
      · have hf := if_f c10 hf
        refine e_iload_n dX6_pouredBack_57 1 rfl rfl (pc2 := 58) rfl ?_
        refine e_aload_n dX6_pouredBack_58 0 rfl rfl (pc2 := 59) rfl ?_
        obtain ⟨g12, hf⟩ := gd_some hf
        refine e_getR (r := s.2.2.2.2.1) fl_X6_33 dX6_pouredBack_59 so_73 rfl (okX4_ne g12) (pc2 := 62) rfl ?_
        refine e_getR (r := Rf (s.2.2.2.2.1) 13) fl_X6_166 dX6_pouredBack_62 (okX4_o g12) (okX4_R g12) (isA_ne (okX4_thing g12)) (pc2 := 65) rfl ?_
        refine e_iload_n dX6_pouredBack_65 3 rfl rfl (pc2 := 66) rfl ?_
        obtain ⟨g13, hf⟩ := gd_some hf
        refine e_aald (r := Rf (Rf (s.2.2.2.2.1) 13) v3.toNatClampNeg) dX6_pouredBack_66 (okX4_thing g12) (by decide) (inb_v g13) (Rs_na (q := s.2.2) (okX4_thing g12) (by decide)) (okX9_ne (okX4_thing_el g12 (inb_v g13))) (pc2 := 67) rfl ?_
        refine e_getI fl_X6_212 dX6_pouredBack_67 (okX9_o (okX4_thing_el g12 (inb_v g13))) (by decide) (pc2 := 70) rfl ?_
        refine e_iconst (x := 2) dX6_pouredBack_70 (by decide) (pc2 := 71) rfl ?_
        refine e_idiv dX6_pouredBack_71 (by decide) (pc2 := 72) rfl ?_
        refine e_iadd dX6_pouredBack_72 (pc2 := 73) rfl ?_
        obtain ⟨x14, ex14, hf⟩ := ltb_s hf
        refine e_istore_n dX6_pouredBack_73 rfl (by decide) ex14.symm (ls' := [(0, .ref 73), (1, .int x14), (2, .int v2), (3, .int v3)]) [1, 0, 2, 3] rfl (pc2 := 74) rfl ?_
        obtain ⟨x15, ex15, hf⟩ := ltb_s hf
        refine e_iinc dX6_pouredBack_74 3 rfl (c9 := 1) (by decide) ex15.symm (by decide) (ls' := [(0, .ref 73), (1, .int x14), (2, .int v2), (3, .int x15)]) [1, 2, 3, 0] rfl (pc2 := 77) rfl ?_
        refine e_goto (tgt := 17) dX6_pouredBack_77 (by decide) ?_
        exact hk17 x14 x15 hf
def f_X6_pouredBack_l17 (v2 : Int32) (k80 : Int32 → Option Int32) (s : HS) : Nat → Int32 → Int32 → Option Int32
  | 0, _, _ => none
  | n + 1, v1, v3 => f_X6_pouredBack_l17b v1 v2 v3 (f_X6_pouredBack_l17 v2 k80 s n) k80 s
set_option maxRecDepth 20000 in
set_option maxHeartbeats 2000000 in
theorem t_X6_pouredBack_l17 (v2 : Int32) (s : HS) {x : Int32} (k80 : Int32 → Option Int32) (hk80 : ∀ (a1 : Int32), k80 a1 = some x → Ev DDX6_pouredBack miX6_pouredBack NF (some (.int x)) NF (hp s) 80 NF [(0, .ref 73), (1, .int a1), (2, .int v2)] [] (hp s)) : ∀ (n : Nat) (v1 : Int32) (v3 : Int32), f_X6_pouredBack_l17 v2 k80 s n v1 v3 = some x → Ev DDX6_pouredBack miX6_pouredBack NF (some (.int x)) NF (hp s) 17 NF [(0, .ref 73), (1, .int v1), (2, .int v2), (3, .int v3)] [] (hp s) := by
  intro n
  induction n with
  | zero =>
    intro v1 v3 hf
    have hf : none = some x := hf
    cases hf
  | succ n ih =>
    intro v1 v3 hf
    exact t_X6_pouredBack_l17b v1 v2 v3  s _ ih _ hk80 hf
def f_X6_pouredBack_l4b (v1 : Int32) (v2 : Int32) (k4 : Int32 → Int32 → Option Int32) (s : HS) : Option Int32 :=
  gd (okX4 (s.2.2.2.2.1)) ((if (s.1 (s.2.2.2.2.1) 14) ≤ v2 then some v1 else f_X6_pouredBack_l17 v2 (fun v16 => ltb (v2 + 1) fun x17 => k4 v16 x17) s FU v1 0))
set_option maxRecDepth 20000 in
set_option maxHeartbeats 2000000 in
theorem t_X6_pouredBack_l4b (v1 : Int32) (v2 : Int32) (s : HS) {x : Int32} (k4 : Int32 → Int32 → Option Int32) (hk4 : ∀ (a1 : Int32) (a2 : Int32), k4 a1 a2 = some x → Ev DDX6_pouredBack miX6_pouredBack NF (some (.int x)) NF (hp s) 4 NF [(0, .ref 73), (1, .int a1), (2, .int a2)] [] (hp s)) (hf : f_X6_pouredBack_l4b v1 v2 k4 s = some x) : Ev DDX6_pouredBack miX6_pouredBack NF (some (.int x)) NF (hp s) 4 NF [(0, .ref 73), (1, .int v1), (2, .int v2)] [] (hp s) := by
  refine e_iload_n dX6_pouredBack_4 2 rfl rfl (pc2 := 5) rfl ?_
  refine e_aload_n dX6_pouredBack_5 0 rfl rfl (pc2 := 6) rfl ?_
  obtain ⟨g1, hf⟩ := gd_some hf
  refine e_getR (r := s.2.2.2.2.1) fl_X6_33 dX6_pouredBack_6 so_73 rfl (okX4_ne g1) (pc2 := 9) rfl ?_
  refine e_getI fl_X6_76 dX6_pouredBack_9 (okX4_o g1) (by decide) (pc2 := 12) rfl ?_
  refine e_icmp_ge (tgt := 86) dX6_pouredBack_12 (by decide) (pc2 := 15) rfl (fun c2 => ?_) (fun c2 => ?_)
  · have hf := if_t c2 hf
    refine e_iload_n dX6_pouredBack_86 1 rfl rfl (pc2 := 87) rfl ?_
    cases hf
    exact e_iret rfl dX6_pouredBack_87
  · have hf := if_f c2 hf
    refine e_iconst (x := 0) dX6_pouredBack_15 (by decide) (pc2 := 16) rfl ?_
    refine e_istore_n dX6_pouredBack_16 rfl (by decide) rfl (ls' := [(0, .ref 73), (1, .int v1), (2, .int v2), (3, .int 0)]) [1, 2, 3, 0] rfl (pc2 := 17) rfl ?_
    refine t_X6_pouredBack_l17 v2 s _ ?_ FU v1 0 hf
    · intro v16 hf
      obtain ⟨x17, ex17, hf⟩ := ltb_s hf
      refine e_iinc dX6_pouredBack_80 2 rfl (c9 := 1) (by decide) ex17.symm (by decide) (ls' := [(0, .ref 73), (1, .int v16), (2, .int x17)]) [1, 2, 0] rfl (pc2 := 83) rfl ?_
      refine e_goto (tgt := 4) dX6_pouredBack_83 (by decide) ?_
      exact hk4 v16 x17 hf
def f_X6_pouredBack_l4  (s : HS) : Nat → Int32 → Int32 → Option Int32
  | 0, _, _ => none
  | n + 1, v1, v2 => f_X6_pouredBack_l4b v1 v2 (f_X6_pouredBack_l4 s n)  s
set_option maxRecDepth 20000 in
set_option maxHeartbeats 2000000 in
theorem t_X6_pouredBack_l4  (s : HS) {x : Int32}  : ∀ (n : Nat) (v1 : Int32) (v2 : Int32), f_X6_pouredBack_l4 s n v1 v2 = some x → Ev DDX6_pouredBack miX6_pouredBack NF (some (.int x)) NF (hp s) 4 NF [(0, .ref 73), (1, .int v1), (2, .int v2)] [] (hp s) := by
  intro n
  induction n with
  | zero =>
    intro v1 v2 hf
    have hf : none = some x := hf
    cases hf
  | succ n ih =>
    intro v1 v2 hf
    exact t_X6_pouredBack_l4b v1 v2  s _ ih  hf
def f_X6_pouredBack  (s : HS) : Option Int32 :=
  f_X6_pouredBack_l4 s FU 0 0
set_option maxRecDepth 20000 in
set_option maxHeartbeats 2000000 in
theorem t_X6_pouredBack  (s : HS) {x : Int32} (hf : f_X6_pouredBack  s = some x) : Mt DDX6_pouredBack miX6_pouredBack [.ref 73] NF (hp s) (some (.int x)) NF (hp s) := by
  refine Mt.of (by decide +kernel) (Nat.le_refl _) (Nat.le_of_ble_eq_true rfl) ?_
  show Ev DDX6_pouredBack miX6_pouredBack NF (some (.int x)) NF (hp s) 0 NF [(0, .ref 73)] [] (hp s)
  unfold f_X6_pouredBack at hf
  refine e_iconst (x := 0) dX6_pouredBack_0 (by decide) (pc2 := 1) rfl ?_
  refine e_istore_n dX6_pouredBack_1 rfl (by decide) rfl (ls' := [(0, .ref 73), (1, .int 0)]) [1, 0] rfl (pc2 := 2) rfl ?_
  refine e_iconst (x := 0) dX6_pouredBack_2 (by decide) (pc2 := 3) rfl ?_
  refine e_istore_n dX6_pouredBack_3 rfl (by decide) rfl (ls' := [(0, .ref 73), (1, .int 0), (2, .int 0)]) [1, 2, 0] rfl (pc2 := 4) rfl ?_
  refine t_X6_pouredBack_l4 s FU 0 0 hf
abbrev DDJ6_bitCount_0f7a4 : Nat := 1
def f_J6_bitCount_0f7a4 (v0 : Int32) (s : HS) : Int32 :=
  ltb (v0 - (((v0.toUInt32 >>> ((1 : Int32).toUInt32 &&& Int32.toUInt32 31)).toInt32) &&& (1431655765 : Int32))) fun x1 => ltb ((x1 &&& (858993459 : Int32)) + (((x1.toUInt32 >>> ((2 : Int32).toUInt32 &&& Int32.toUInt32 31)).toInt32) &&& (858993459 : Int32))) fun x2 => ltb ((x2 + ((x2.toUInt32 >>> ((4 : Int32).toUInt32 &&& Int32.toUInt32 31)).toInt32)) &&& (252645135 : Int32)) fun x3 => ltb (x3 + ((x3.toUInt32 >>> ((8 : Int32).toUInt32 &&& Int32.toUInt32 31)).toInt32)) fun x4 => ltb (x4 + ((x4.toUInt32 >>> ((16 : Int32).toUInt32 &&& Int32.toUInt32 31)).toInt32)) fun x5 => x5 &&& (63 : Int32)
set_option maxRecDepth 20000 in
set_option maxHeartbeats 2000000 in
theorem t_J6_bitCount_0f7a4 (v0 : Int32) (s : HS) {x : Int32} (hf : f_J6_bitCount_0f7a4  v0 s = x) : Mt DDJ6_bitCount_0f7a4 miJ6_bitCount_0f7a4 [.int v0] NF (hp s) (some (.int x)) NF (hp s) := by
  refine Mt.of (by decide +kernel) (Nat.le_refl _) (Nat.le_of_ble_eq_true rfl) ?_
  show Ev DDJ6_bitCount_0f7a4 miJ6_bitCount_0f7a4 NF (some (.int x)) NF (hp s) 0 NF [(0, .int v0)] [] (hp s)
  unfold f_J6_bitCount_0f7a4 at hf
  refine e_iload_n dJ6_bitCount_0f7a4_0 0 rfl rfl (pc2 := 1) rfl ?_
  refine e_iload_n dJ6_bitCount_0f7a4_1 0 rfl rfl (pc2 := 2) rfl ?_
  refine e_iconst (x := 1) dJ6_bitCount_0f7a4_2 (by decide) (pc2 := 3) rfl ?_
  refine e_iushr dJ6_bitCount_0f7a4_3 (pc2 := 4) rfl ?_
  refine e_ldcw dJ6_bitCount_0f7a4_4 lk_J6_265 (pc2 := 7) rfl ?_
  refine e_iand dJ6_bitCount_0f7a4_7 (pc2 := 8) rfl ?_
  refine e_isub dJ6_bitCount_0f7a4_8 (pc2 := 9) rfl ?_
  obtain ⟨x1, ex1, hf⟩ := ltb_s hf
  refine e_istore_n dJ6_bitCount_0f7a4_9 rfl (by decide) ex1.symm (ls' := [(0, .int x1)]) [0] rfl (pc2 := 10) rfl ?_
  refine e_iload_n dJ6_bitCount_0f7a4_10 0 rfl rfl (pc2 := 11) rfl ?_
  refine e_ldcw dJ6_bitCount_0f7a4_11 lk_J6_266 (pc2 := 14) rfl ?_
  refine e_iand dJ6_bitCount_0f7a4_14 (pc2 := 15) rfl ?_
  refine e_iload_n dJ6_bitCount_0f7a4_15 0 rfl rfl (pc2 := 16) rfl ?_
  refine e_iconst (x := 2) dJ6_bitCount_0f7a4_16 (by decide) (pc2 := 17) rfl ?_
  refine e_iushr dJ6_bitCount_0f7a4_17 (pc2 := 18) rfl ?_
  refine e_ldcw dJ6_bitCount_0f7a4_18 lk_J6_266 (pc2 := 21) rfl ?_
  refine e_iand dJ6_bitCount_0f7a4_21 (pc2 := 22) rfl ?_
  refine e_iadd dJ6_bitCount_0f7a4_22 (pc2 := 23) rfl ?_
  obtain ⟨x2, ex2, hf⟩ := ltb_s hf
  refine e_istore_n dJ6_bitCount_0f7a4_23 rfl (by decide) ex2.symm (ls' := [(0, .int x2)]) [0] rfl (pc2 := 24) rfl ?_
  refine e_iload_n dJ6_bitCount_0f7a4_24 0 rfl rfl (pc2 := 25) rfl ?_
  refine e_iload_n dJ6_bitCount_0f7a4_25 0 rfl rfl (pc2 := 26) rfl ?_
  refine e_iconst (x := 4) dJ6_bitCount_0f7a4_26 (by decide) (pc2 := 27) rfl ?_
  refine e_iushr dJ6_bitCount_0f7a4_27 (pc2 := 28) rfl ?_
  refine e_iadd dJ6_bitCount_0f7a4_28 (pc2 := 29) rfl ?_
  refine e_ldcw dJ6_bitCount_0f7a4_29 lk_J6_267 (pc2 := 32) rfl ?_
  refine e_iand dJ6_bitCount_0f7a4_32 (pc2 := 33) rfl ?_
  obtain ⟨x3, ex3, hf⟩ := ltb_s hf
  refine e_istore_n dJ6_bitCount_0f7a4_33 rfl (by decide) ex3.symm (ls' := [(0, .int x3)]) [0] rfl (pc2 := 34) rfl ?_
  refine e_iload_n dJ6_bitCount_0f7a4_34 0 rfl rfl (pc2 := 35) rfl ?_
  refine e_iload_n dJ6_bitCount_0f7a4_35 0 rfl rfl (pc2 := 36) rfl ?_
  refine e_bipush (x := 8) dJ6_bitCount_0f7a4_36 (by decide) (pc2 := 38) rfl ?_
  refine e_iushr dJ6_bitCount_0f7a4_38 (pc2 := 39) rfl ?_
  refine e_iadd dJ6_bitCount_0f7a4_39 (pc2 := 40) rfl ?_
  obtain ⟨x4, ex4, hf⟩ := ltb_s hf
  refine e_istore_n dJ6_bitCount_0f7a4_40 rfl (by decide) ex4.symm (ls' := [(0, .int x4)]) [0] rfl (pc2 := 41) rfl ?_
  refine e_iload_n dJ6_bitCount_0f7a4_41 0 rfl rfl (pc2 := 42) rfl ?_
  refine e_iload_n dJ6_bitCount_0f7a4_42 0 rfl rfl (pc2 := 43) rfl ?_
  refine e_bipush (x := 16) dJ6_bitCount_0f7a4_43 (by decide) (pc2 := 45) rfl ?_
  refine e_iushr dJ6_bitCount_0f7a4_45 (pc2 := 46) rfl ?_
  refine e_iadd dJ6_bitCount_0f7a4_46 (pc2 := 47) rfl ?_
  obtain ⟨x5, ex5, hf⟩ := ltb_s hf
  refine e_istore_n dJ6_bitCount_0f7a4_47 rfl (by decide) ex5.symm (ls' := [(0, .int x5)]) [0] rfl (pc2 := 48) rfl ?_
  refine e_iload_n dJ6_bitCount_0f7a4_48 0 rfl rfl (pc2 := 49) rfl ?_
  refine e_bipush (x := 63) dJ6_bitCount_0f7a4_49 (by decide) (pc2 := 51) rfl ?_
  refine e_iand dJ6_bitCount_0f7a4_51 (pc2 := 52) rfl ?_
  cases hf
  exact e_iret rfl dJ6_bitCount_0f7a4_52
abbrev DDX6_drunkInAll : Nat := 2
def f_X6_drunkInAll_l4b (v1 : Int32) (v2 : Int32) (k4 : Int32 → Int32 → Option Int32) (s : HS) : Option Int32 :=
  gd (okX4 (s.2.2.2.2.1)) ((if (s.1 (s.2.2.2.2.1) 14) ≤ v2 then some v1 else gd (inb v2 6) (ltb (v1 + (f_J6_bitCount_0f7a4 (s.1 78 v2.toNatClampNeg) s)) fun x4 => ltb (v2 + 1) fun x5 => k4 x4 x5)))
set_option maxRecDepth 20000 in
set_option maxHeartbeats 2000000 in
theorem t_X6_drunkInAll_l4b (v1 : Int32) (v2 : Int32) (s : HS) {x : Int32} (k4 : Int32 → Int32 → Option Int32) (hk4 : ∀ (a1 : Int32) (a2 : Int32), k4 a1 a2 = some x → Ev DDX6_drunkInAll miX6_drunkInAll NF (some (.int x)) NF (hp s) 4 NF [(0, .ref 73), (1, .int a1), (2, .int a2)] [] (hp s)) (hf : f_X6_drunkInAll_l4b v1 v2 k4 s = some x) : Ev DDX6_drunkInAll miX6_drunkInAll NF (some (.int x)) NF (hp s) 4 NF [(0, .ref 73), (1, .int v1), (2, .int v2)] [] (hp s) := by
  refine e_iload_n dX6_drunkInAll_4 2 rfl rfl (pc2 := 5) rfl ?_
  refine e_aload_n dX6_drunkInAll_5 0 rfl rfl (pc2 := 6) rfl ?_
  obtain ⟨g1, hf⟩ := gd_some hf
  refine e_getR (r := s.2.2.2.2.1) fl_X6_33 dX6_drunkInAll_6 so_73 rfl (okX4_ne g1) (pc2 := 9) rfl ?_
  refine e_getI fl_X6_76 dX6_drunkInAll_9 (okX4_o g1) (by decide) (pc2 := 12) rfl ?_
  refine e_icmp_ge (tgt := 33) dX6_drunkInAll_12 (by decide) (pc2 := 15) rfl (fun c2 => ?_) (fun c2 => ?_)
  · have hf := if_t c2 hf
    refine e_iload_n dX6_drunkInAll_33 1 rfl rfl (pc2 := 34) rfl ?_
    cases hf
    exact e_iret rfl dX6_drunkInAll_34
  · have hf := if_f c2 hf
    refine e_iload_n dX6_drunkInAll_15 1 rfl rfl (pc2 := 16) rfl ?_
    refine e_aload_n dX6_drunkInAll_16 0 rfl rfl (pc2 := 17) rfl ?_
    refine e_getR (r := 78) fl_X6_24 dX6_drunkInAll_17 so_73 (rs_73_12 s.2.2) (by decide) (pc2 := 20) rfl ?_
    refine e_iload_n dX6_drunkInAll_20 2 rfl rfl (pc2 := 21) rfl ?_
    obtain ⟨g3, hf⟩ := gd_some hf
    refine e_iald dX6_drunkInAll_21 sa_78 (inb_v g3) (pc2 := 22) rfl ?_
    refine e_callSs (t_J6_bitCount_0f7a4 (s.1 78 v2.toNatClampNeg) s rfl) dX6_drunkInAll_22 cs_X6_215 rfl (by decide) (by first | exact Nat.le_of_ble_eq_true rfl | simp [rva_cat, vc_i, vc_r, vc_l, vc_n]) nn0 rfl (pc2 := 25) rfl ?_
    refine e_iadd dX6_drunkInAll_25 (pc2 := 26) rfl ?_
    obtain ⟨x4, ex4, hf⟩ := ltb_s hf
    refine e_istore_n dX6_drunkInAll_26 rfl (by decide) ex4.symm (ls' := [(0, .ref 73), (1, .int x4), (2, .int v2)]) [1, 0, 2] rfl (pc2 := 27) rfl ?_
    obtain ⟨x5, ex5, hf⟩ := ltb_s hf
    refine e_iinc dX6_drunkInAll_27 2 rfl (c9 := 1) (by decide) ex5.symm (by decide) (ls' := [(0, .ref 73), (1, .int x4), (2, .int x5)]) [1, 2, 0] rfl (pc2 := 30) rfl ?_
    refine e_goto (tgt := 4) dX6_drunkInAll_30 (by decide) ?_
    exact hk4 x4 x5 hf
def f_X6_drunkInAll_l4  (s : HS) : Nat → Int32 → Int32 → Option Int32
  | 0, _, _ => none
  | n + 1, v1, v2 => f_X6_drunkInAll_l4b v1 v2 (f_X6_drunkInAll_l4 s n)  s
set_option maxRecDepth 20000 in
set_option maxHeartbeats 2000000 in
theorem t_X6_drunkInAll_l4  (s : HS) {x : Int32}  : ∀ (n : Nat) (v1 : Int32) (v2 : Int32), f_X6_drunkInAll_l4 s n v1 v2 = some x → Ev DDX6_drunkInAll miX6_drunkInAll NF (some (.int x)) NF (hp s) 4 NF [(0, .ref 73), (1, .int v1), (2, .int v2)] [] (hp s) := by
  intro n
  induction n with
  | zero =>
    intro v1 v2 hf
    have hf : none = some x := hf
    cases hf
  | succ n ih =>
    intro v1 v2 hf
    exact t_X6_drunkInAll_l4b v1 v2  s _ ih  hf
def f_X6_drunkInAll  (s : HS) : Option Int32 :=
  f_X6_drunkInAll_l4 s FU 0 0
set_option maxRecDepth 20000 in
set_option maxHeartbeats 2000000 in
theorem t_X6_drunkInAll  (s : HS) {x : Int32} (hf : f_X6_drunkInAll  s = some x) : Mt DDX6_drunkInAll miX6_drunkInAll [.ref 73] NF (hp s) (some (.int x)) NF (hp s) := by
  refine Mt.of (by decide +kernel) (Nat.le_refl _) (Nat.le_of_ble_eq_true rfl) ?_
  show Ev DDX6_drunkInAll miX6_drunkInAll NF (some (.int x)) NF (hp s) 0 NF [(0, .ref 73)] [] (hp s)
  unfold f_X6_drunkInAll at hf
  refine e_iconst (x := 0) dX6_drunkInAll_0 (by decide) (pc2 := 1) rfl ?_
  refine e_istore_n dX6_drunkInAll_1 rfl (by decide) rfl (ls' := [(0, .ref 73), (1, .int 0)]) [1, 0] rfl (pc2 := 2) rfl ?_
  refine e_iconst (x := 0) dX6_drunkInAll_2 (by decide) (pc2 := 3) rfl ?_
  refine e_istore_n dX6_drunkInAll_3 rfl (by decide) rfl (ls' := [(0, .ref 73), (1, .int 0), (2, .int 0)]) [1, 2, 0] rfl (pc2 := 4) rfl ?_
  refine t_X6_drunkInAll_l4 s FU 0 0 hf
abbrev DDX6_leftInAll : Nat := 2
def f_X6_leftInAll_l4b (v1 : Int32) (v2 : Int32) (k4 : Int32 → Int32 → Option Int32) (s : HS) : Option Int32 :=
  gd (okX4 (s.2.2.2.2.1)) ((if (s.1 (s.2.2.2.2.1) 14) ≤ v2 then some v1 else gd (inb v2 6) (ltb (v1 + (f_J6_bitCount_0f7a4 (s.1 79 v2.toNatClampNeg) s)) fun x4 => ltb (v2 + 1) fun x5 => k4 x4 x5)))
set_option maxRecDepth 20000 in
set_option maxHeartbeats 2000000 in
theorem t_X6_leftInAll_l4b (v1 : Int32) (v2 : Int32) (s : HS) {x : Int32} (k4 : Int32 → Int32 → Option Int32) (hk4 : ∀ (a1 : Int32) (a2 : Int32), k4 a1 a2 = some x → Ev DDX6_leftInAll miX6_leftInAll NF (some (.int x)) NF (hp s) 4 NF [(0, .ref 73), (1, .int a1), (2, .int a2)] [] (hp s)) (hf : f_X6_leftInAll_l4b v1 v2 k4 s = some x) : Ev DDX6_leftInAll miX6_leftInAll NF (some (.int x)) NF (hp s) 4 NF [(0, .ref 73), (1, .int v1), (2, .int v2)] [] (hp s) := by
  refine e_iload_n dX6_leftInAll_4 2 rfl rfl (pc2 := 5) rfl ?_
  refine e_aload_n dX6_leftInAll_5 0 rfl rfl (pc2 := 6) rfl ?_
  obtain ⟨g1, hf⟩ := gd_some hf
  refine e_getR (r := s.2.2.2.2.1) fl_X6_33 dX6_leftInAll_6 so_73 rfl (okX4_ne g1) (pc2 := 9) rfl ?_
  refine e_getI fl_X6_76 dX6_leftInAll_9 (okX4_o g1) (by decide) (pc2 := 12) rfl ?_
  refine e_icmp_ge (tgt := 33) dX6_leftInAll_12 (by decide) (pc2 := 15) rfl (fun c2 => ?_) (fun c2 => ?_)
  · have hf := if_t c2 hf
    refine e_iload_n dX6_leftInAll_33 1 rfl rfl (pc2 := 34) rfl ?_
    cases hf
    exact e_iret rfl dX6_leftInAll_34
  · have hf := if_f c2 hf
    refine e_iload_n dX6_leftInAll_15 1 rfl rfl (pc2 := 16) rfl ?_
    refine e_aload_n dX6_leftInAll_16 0 rfl rfl (pc2 := 17) rfl ?_
    refine e_getR (r := 79) fl_X6_27 dX6_leftInAll_17 so_73 (rs_73_13 s.2.2) (by decide) (pc2 := 20) rfl ?_
    refine e_iload_n dX6_leftInAll_20 2 rfl rfl (pc2 := 21) rfl ?_
    obtain ⟨g3, hf⟩ := gd_some hf
    refine e_iald dX6_leftInAll_21 sa_79 (inb_v g3) (pc2 := 22) rfl ?_
    refine e_callSs (t_J6_bitCount_0f7a4 (s.1 79 v2.toNatClampNeg) s rfl) dX6_leftInAll_22 cs_X6_215 rfl (by decide) (by first | exact Nat.le_of_ble_eq_true rfl | simp [rva_cat, vc_i, vc_r, vc_l, vc_n]) nn0 rfl (pc2 := 25) rfl ?_
    refine e_iadd dX6_leftInAll_25 (pc2 := 26) rfl ?_
    obtain ⟨x4, ex4, hf⟩ := ltb_s hf
    refine e_istore_n dX6_leftInAll_26 rfl (by decide) ex4.symm (ls' := [(0, .ref 73), (1, .int x4), (2, .int v2)]) [1, 0, 2] rfl (pc2 := 27) rfl ?_
    obtain ⟨x5, ex5, hf⟩ := ltb_s hf
    refine e_iinc dX6_leftInAll_27 2 rfl (c9 := 1) (by decide) ex5.symm (by decide) (ls' := [(0, .ref 73), (1, .int x4), (2, .int x5)]) [1, 2, 0] rfl (pc2 := 30) rfl ?_
    refine e_goto (tgt := 4) dX6_leftInAll_30 (by decide) ?_
    exact hk4 x4 x5 hf
def f_X6_leftInAll_l4  (s : HS) : Nat → Int32 → Int32 → Option Int32
  | 0, _, _ => none
  | n + 1, v1, v2 => f_X6_leftInAll_l4b v1 v2 (f_X6_leftInAll_l4 s n)  s
set_option maxRecDepth 20000 in
set_option maxHeartbeats 2000000 in
theorem t_X6_leftInAll_l4  (s : HS) {x : Int32}  : ∀ (n : Nat) (v1 : Int32) (v2 : Int32), f_X6_leftInAll_l4 s n v1 v2 = some x → Ev DDX6_leftInAll miX6_leftInAll NF (some (.int x)) NF (hp s) 4 NF [(0, .ref 73), (1, .int v1), (2, .int v2)] [] (hp s) := by
  intro n
  induction n with
  | zero =>
    intro v1 v2 hf
    have hf : none = some x := hf
    cases hf
  | succ n ih =>
    intro v1 v2 hf
    exact t_X6_leftInAll_l4b v1 v2  s _ ih  hf
def f_X6_leftInAll  (s : HS) : Option Int32 :=
  f_X6_leftInAll_l4 s FU 0 0
set_option maxRecDepth 20000 in
set_option maxHeartbeats 2000000 in
theorem t_X6_leftInAll  (s : HS) {x : Int32} (hf : f_X6_leftInAll  s = some x) : Mt DDX6_leftInAll miX6_leftInAll [.ref 73] NF (hp s) (some (.int x)) NF (hp s) := by
  refine Mt.of (by decide +kernel) (Nat.le_refl _) (Nat.le_of_ble_eq_true rfl) ?_
  show Ev DDX6_leftInAll miX6_leftInAll NF (some (.int x)) NF (hp s) 0 NF [(0, .ref 73)] [] (hp s)
  unfold f_X6_leftInAll at hf
  refine e_iconst (x := 0) dX6_leftInAll_0 (by decide) (pc2 := 1) rfl ?_
  refine e_istore_n dX6_leftInAll_1 rfl (by decide) rfl (ls' := [(0, .ref 73), (1, .int 0)]) [1, 0] rfl (pc2 := 2) rfl ?_
  refine e_iconst (x := 0) dX6_leftInAll_2 (by decide) (pc2 := 3) rfl ?_
  refine e_istore_n dX6_leftInAll_3 rfl (by decide) rfl (ls' := [(0, .ref 73), (1, .int 0), (2, .int 0)]) [1, 2, 0] rfl (pc2 := 4) rfl ?_
  refine t_X6_leftInAll_l4 s FU 0 0 hf
abbrev DDX6_servedBy : Nat := 1
def f_X6_servedBy_l4b (v1 : Int32) (v2 : Int32) (v3 : Int32) (k4 : Int32 → Int32 → Option Int32) (s : HS) : Option Int32 :=
  gd (okX4 (s.2.2.2.2.1)) ((if (s.1 (s.2.2.2.2.1) 14) ≤ v3 then some v2 else gd (inb v3 6) ((if (s.1 77 v3.toNatClampNeg) = (-1) then ltb (v3 + 1) fun x5 => k4 v2 x5 else gd (inb v3 6) ((if v1 < (s.1 77 v3.toNatClampNeg) then ltb (v3 + 1) fun x8 => k4 v2 x8 else ltb (v2 + 1) fun x9 => ltb (v3 + 1) fun x10 => k4 x9 x10))))))
set_option maxRecDepth 20000 in
set_option maxHeartbeats 2000000 in
theorem t_X6_servedBy_l4b (v1 : Int32) (v2 : Int32) (v3 : Int32) (s : HS) {x : Int32} (k4 : Int32 → Int32 → Option Int32) (hk4 : ∀ (a2 : Int32) (a3 : Int32), k4 a2 a3 = some x → Ev DDX6_servedBy miX6_servedBy NF (some (.int x)) NF (hp s) 4 NF [(0, .ref 73), (1, .int v1), (2, .int a2), (3, .int a3)] [] (hp s)) (hf : f_X6_servedBy_l4b v1 v2 v3 k4 s = some x) : Ev DDX6_servedBy miX6_servedBy NF (some (.int x)) NF (hp s) 4 NF [(0, .ref 73), (1, .int v1), (2, .int v2), (3, .int v3)] [] (hp s) := by
  refine e_iload_n dX6_servedBy_4 3 rfl rfl (pc2 := 5) rfl ?_
  refine e_aload_n dX6_servedBy_5 0 rfl rfl (pc2 := 6) rfl ?_
  obtain ⟨g1, hf⟩ := gd_some hf
  refine e_getR (r := s.2.2.2.2.1) fl_X6_33 dX6_servedBy_6 so_73 rfl (okX4_ne g1) (pc2 := 9) rfl ?_
  refine e_getI fl_X6_76 dX6_servedBy_9 (okX4_o g1) (by decide) (pc2 := 12) rfl ?_
  refine e_icmp_ge (tgt := 44) dX6_servedBy_12 (by decide) (pc2 := 15) rfl (fun c2 => ?_) (fun c2 => ?_)
  · have hf := if_t c2 hf
    refine e_iload_n dX6_servedBy_44 2 rfl rfl (pc2 := 45) rfl ?_
    cases hf
    exact e_iret rfl dX6_servedBy_45
  · have hf := if_f c2 hf
    refine e_aload_n dX6_servedBy_15 0 rfl rfl (pc2 := 16) rfl ?_
    refine e_getR (r := 77) fl_X6_21 dX6_servedBy_16 so_73 (rs_73_11 s.2.2) (by decide) (pc2 := 19) rfl ?_
    refine e_iload_n dX6_servedBy_19 3 rfl rfl (pc2 := 20) rfl ?_
    obtain ⟨g3, hf⟩ := gd_some hf
    refine e_iald dX6_servedBy_20 sa_77 (inb_v g3) (pc2 := 21) rfl ?_
    refine e_iconst (x := (-1)) dX6_servedBy_21 (by decide) (pc2 := 22) rfl ?_
    refine e_icmp_eq (tgt := 38) dX6_servedBy_22 (by decide) (pc2 := 25) rfl (fun c4 => ?_) (fun c4 => ?_)
    · have hf := if_t c4 hf
      obtain ⟨x5, ex5, hf⟩ := ltb_s hf
      refine e_iinc dX6_servedBy_38 3 rfl (c9 := 1) (by decide) ex5.symm (by decide) (ls' := [(0, .ref 73), (1, .int v1), (2, .int v2), (3, .int x5)]) [1, 2, 3, 0] rfl (pc2 := 41) rfl ?_
      refine e_goto (tgt := 4) dX6_servedBy_41 (by decide) ?_
      exact hk4 v2 x5 hf
    · have hf := if_f c4 hf
      refine e_aload_n dX6_servedBy_25 0 rfl rfl (pc2 := 26) rfl ?_
      refine e_getR (r := 77) fl_X6_21 dX6_servedBy_26 so_73 (rs_73_11 s.2.2) (by decide) (pc2 := 29) rfl ?_
      refine e_iload_n dX6_servedBy_29 3 rfl rfl (pc2 := 30) rfl ?_
      obtain ⟨g6, hf⟩ := gd_some hf
      refine e_iald dX6_servedBy_30 sa_77 (inb_v g6) (pc2 := 31) rfl ?_
      refine e_iload_n dX6_servedBy_31 1 rfl rfl (pc2 := 32) rfl ?_
      refine e_icmp_gt (tgt := 38) dX6_servedBy_32 (by decide) (pc2 := 35) rfl (fun c7 => ?_) (fun c7 => ?_)
      · have hf := if_t c7 hf
        obtain ⟨x8, ex8, hf⟩ := ltb_s hf
        refine e_iinc dX6_servedBy_38 3 rfl (c9 := 1) (by decide) ex8.symm (by decide) (ls' := [(0, .ref 73), (1, .int v1), (2, .int v2), (3, .int x8)]) [1, 2, 3, 0] rfl (pc2 := 41) rfl ?_
        refine e_goto (tgt := 4) dX6_servedBy_41 (by decide) ?_
        exact hk4 v2 x8 hf
      · have hf := if_f c7 hf
        obtain ⟨x9, ex9, hf⟩ := ltb_s hf
        refine e_iinc dX6_servedBy_35 2 rfl (c9 := 1) (by decide) ex9.symm (by decide) (ls' := [(0, .ref 73), (1, .int v1), (2, .int x9), (3, .int v3)]) [1, 2, 0, 3] rfl (pc2 := 38) rfl ?_
        obtain ⟨x10, ex10, hf⟩ := ltb_s hf
        refine e_iinc dX6_servedBy_38 3 rfl (c9 := 1) (by decide) ex10.symm (by decide) (ls' := [(0, .ref 73), (1, .int v1), (2, .int x9), (3, .int x10)]) [1, 2, 3, 0] rfl (pc2 := 41) rfl ?_
        refine e_goto (tgt := 4) dX6_servedBy_41 (by decide) ?_
        exact hk4 x9 x10 hf
def f_X6_servedBy_l4 (v1 : Int32) (s : HS) : Nat → Int32 → Int32 → Option Int32
  | 0, _, _ => none
  | n + 1, v2, v3 => f_X6_servedBy_l4b v1 v2 v3 (f_X6_servedBy_l4 v1 s n)  s
set_option maxRecDepth 20000 in
set_option maxHeartbeats 2000000 in
theorem t_X6_servedBy_l4 (v1 : Int32) (s : HS) {x : Int32}  : ∀ (n : Nat) (v2 : Int32) (v3 : Int32), f_X6_servedBy_l4 v1 s n v2 v3 = some x → Ev DDX6_servedBy miX6_servedBy NF (some (.int x)) NF (hp s) 4 NF [(0, .ref 73), (1, .int v1), (2, .int v2), (3, .int v3)] [] (hp s) := by
  intro n
  induction n with
  | zero =>
    intro v2 v3 hf
    have hf : none = some x := hf
    cases hf
  | succ n ih =>
    intro v2 v3 hf
    exact t_X6_servedBy_l4b v1 v2 v3  s _ ih  hf
def f_X6_servedBy (v1 : Int32) (s : HS) : Option Int32 :=
  f_X6_servedBy_l4 v1 s FU 0 0
set_option maxRecDepth 20000 in
set_option maxHeartbeats 2000000 in
theorem t_X6_servedBy (v1 : Int32) (s : HS) {x : Int32} (hf : f_X6_servedBy  v1 s = some x) : Mt DDX6_servedBy miX6_servedBy [.ref 73, .int v1] NF (hp s) (some (.int x)) NF (hp s) := by
  refine Mt.of (by decide +kernel) (Nat.le_refl _) (Nat.le_of_ble_eq_true rfl) ?_
  show Ev DDX6_servedBy miX6_servedBy NF (some (.int x)) NF (hp s) 0 NF [(0, .ref 73), (1, .int v1)] [] (hp s)
  unfold f_X6_servedBy at hf
  refine e_iconst (x := 0) dX6_servedBy_0 (by decide) (pc2 := 1) rfl ?_
  refine e_istore_n dX6_servedBy_1 rfl (by decide) rfl (ls' := [(0, .ref 73), (1, .int v1), (2, .int 0)]) [1, 2, 0] rfl (pc2 := 2) rfl ?_
  refine e_iconst (x := 0) dX6_servedBy_2 (by decide) (pc2 := 3) rfl ?_
  refine e_istore_n dX6_servedBy_3 rfl (by decide) rfl (ls' := [(0, .ref 73), (1, .int v1), (2, .int 0), (3, .int 0)]) [1, 2, 3, 0] rfl (pc2 := 4) rfl ?_
  refine t_X6_servedBy_l4 v1 s FU 0 0 hf
abbrev DDX7_startWith : Nat := 1
def f_X7_startWith_l28b (v0 : Nat) (v1 : Nat) (v2 : Int32) (k28 : Int32 → HS → Option HS) (s : HS) : Option HS :=
  (if (s.1 v1 12) ≤ v2 then some s else gd (inb v2 5) (gd (inb v2 5) (ltb (sI s (Rf v0 4) (v2.toNatClampNeg) (s.1 (Rf (Rf v1 13) v2.toNatClampNeg) 4)) fun s7 => ltb (v2 + 1) fun x9 => k28 x9 s7)))
set_option maxRecDepth 20000 in
set_option maxHeartbeats 2000000 in
theorem t_X7_startWith_l28b (v0 : Nat) (v1 : Nat) (v2 : Int32) (hv0 : okX7 v0 = true) (hv1 : okX4 v1 = true) (s : HS) {t : HS} (k28 : Int32 → HS → Option HS) (hk28 : ∀ (a2 : Int32) (s : HS), k28 a2 s = some t → Ev DDX7_startWith miX7_startWith NF none NF (hp t) 28 NF [(0, .ref v0), (1, .ref v1), (2, .int a2)] [] (hp s)) (hf : f_X7_startWith_l28b v0 v1 v2 k28 s = some t) : Ev DDX7_startWith miX7_startWith NF none NF (hp t) 28 NF [(0, .ref v0), (1, .ref v1), (2, .int v2)] [] (hp s) := by
  refine e_iload_n dX7_startWith_28 2 rfl rfl (pc2 := 29) rfl ?_
  refine e_aload_n dX7_startWith_29 1 rfl rfl (pc2 := 30) rfl ?_
  refine e_getI fl_X7_41 dX7_startWith_30 (okX4_o hv1) (by decide) (pc2 := 33) rfl ?_
  refine e_icmp_ge (tgt := 57) dX7_startWith_33 (by decide) (pc2 := 36) rfl (fun c5 => ?_) (fun c5 => ?_)
  · have hf := if_t c5 hf
    cases hf
    exact e_vret rfl dX7_startWith_57
  · have hf := if_f c5 hf
    refine e_aload_n dX7_startWith_36 0 rfl rfl (pc2 := 37) rfl ?_
    refine e_getR (r := Rf v0 4) fl_X7_9 dX7_startWith_37 (okX7_o hv0) (okX7_R hv0) (isA_ne (okX7_hot hv0)) (pc2 := 40) rfl ?_
    refine e_iload_n dX7_startWith_40 2 rfl rfl (pc2 := 41) rfl ?_
    refine e_aload_n dX7_startWith_41 1 rfl rfl (pc2 := 42) rfl ?_
    refine e_getR (r := Rf v1 13) fl_X7_44 dX7_startWith_42 (okX4_o hv1) (okX4_R hv1) (isA_ne (okX4_thing hv1)) (pc2 := 45) rfl ?_
    refine e_iload_n dX7_startWith_45 2 rfl rfl (pc2 := 46) rfl ?_
    obtain ⟨g6, hf⟩ := gd_some hf
    refine e_aald (r := Rf (Rf v1 13) v2.toNatClampNeg) dX7_startWith_46 (okX4_thing hv1) (by decide) (inb_v g6) (Rs_na (q := s.2.2) (okX4_thing hv1) (by decide)) (okX9_ne (okX4_thing_el hv1 (inb_v g6))) (pc2 := 47) rfl ?_
    refine e_getI fl_X7_48 dX7_startWith_47 (okX9_o (okX4_thing_el hv1 (inb_v g6))) (by decide) (pc2 := 50) rfl ?_
    obtain ⟨g8, hf⟩ := gd_some hf
    obtain ⟨s7, es7, hf⟩ := ltb_s hf
    refine e_iast dX7_startWith_50 (okX7_hot hv0) (inb_v g8) (h2 := hp s7) (by rw [es7]; rfl) (pc2 := 51) rfl ?_
    obtain ⟨x9, ex9, hf⟩ := ltb_s hf
    refine e_iinc dX7_startWith_51 2 rfl (c9 := 1) (by decide) ex9.symm (by decide) (ls' := [(0, .ref v0), (1, .ref v1), (2, .int x9)]) [1, 2, 0] rfl (pc2 := 54) rfl ?_
    refine e_goto (tgt := 28) dX7_startWith_54 (by decide) ?_
    exact hk28 x9 s7 hf
def f_X7_startWith_l28 (v0 : Nat) (v1 : Nat) : Nat → Int32 → HS → Option HS
  | 0, _, _ => none
  | n + 1, v2, s => f_X7_startWith_l28b v0 v1 v2 (f_X7_startWith_l28 v0 v1 n)  s
set_option maxRecDepth 20000 in
set_option maxHeartbeats 2000000 in
theorem t_X7_startWith_l28 (v0 : Nat) (v1 : Nat) (hv0 : okX7 v0 = true) (hv1 : okX4 v1 = true) {t : HS}  : ∀ (n : Nat) (v2 : Int32) (s : HS), f_X7_startWith_l28 v0 v1 n v2 s = some t → Ev DDX7_startWith miX7_startWith NF none NF (hp t) 28 NF [(0, .ref v0), (1, .ref v1), (2, .int v2)] [] (hp s) := by
  intro n
  induction n with
  | zero =>
    intro v2 s hf
    have hf : none = some t := hf
    cases hf
  | succ n ih =>
    intro v2 s hf
    exact t_X7_startWith_l28b v0 v1 v2 hv0 hv1 s _ ih  hf
def f_X7_startWith (p : Nat) (v1 : Nat) (s : HS) : Option HS :=
  ltb (sI s p 0 0) fun s1 => ltb (sI s1 p 1 (s1.1 v1 1)) fun s2 => ltb (sI s2 p 2 0) fun s3 => ltb (sI s3 p 3 (s3.1 v1 2)) fun s4 => f_X7_startWith_l28 p v1 FU 0 s4
set_option maxRecDepth 20000 in
set_option maxHeartbeats 2000000 in
theorem t_X7_startWith (p : Nat) (hp_ : okX7 p = true) (v1 : Nat) (hv1 : okX4 v1 = true) (s : HS) {t : HS} (hf : f_X7_startWith  p v1 s = some t) : Mt DDX7_startWith miX7_startWith [.ref p, .ref v1] NF (hp s) none NF (hp t) := by
  refine Mt.of (by decide +kernel) (Nat.le_refl _) (Nat.le_of_ble_eq_true rfl) ?_
  show Ev DDX7_startWith miX7_startWith NF none NF (hp t) 0 NF [(0, .ref p), (1, .ref v1)] [] (hp s)
  unfold f_X7_startWith at hf
  refine e_aload_n dX7_startWith_0 0 rfl rfl (pc2 := 1) rfl ?_
  refine e_iconst (x := 0) dX7_startWith_1 (by decide) (pc2 := 2) rfl ?_
  obtain ⟨s1, es1, hf⟩ := ltb_s hf
  refine e_putI fl_X7_24 dX7_startWith_2 (okX7_o hp_) fn_7_0 (h2 := hp s1) (by rw [es1]; rfl) (pc2 := 5) rfl ?_
  refine e_aload_n dX7_startWith_5 0 rfl rfl (pc2 := 6) rfl ?_
  refine e_aload_n dX7_startWith_6 1 rfl rfl (pc2 := 7) rfl ?_
  refine e_getI fl_X7_28 dX7_startWith_7 (okX4_o hv1) (by decide) (pc2 := 10) rfl ?_
  obtain ⟨s2, es2, hf⟩ := ltb_s hf
  refine e_putI fl_X7_33 dX7_startWith_10 (okX7_o hp_) fn_7_1 (h2 := hp s2) (by rw [es2]; rfl) (pc2 := 13) rfl ?_
  refine e_aload_n dX7_startWith_13 0 rfl rfl (pc2 := 14) rfl ?_
  refine e_iconst (x := 0) dX7_startWith_14 (by decide) (pc2 := 15) rfl ?_
  obtain ⟨s3, es3, hf⟩ := ltb_s hf
  refine e_putI fl_X7_34 dX7_startWith_15 (okX7_o hp_) fn_7_2 (h2 := hp s3) (by rw [es3]; rfl) (pc2 := 18) rfl ?_
  refine e_aload_n dX7_startWith_18 0 rfl rfl (pc2 := 19) rfl ?_
  refine e_aload_n dX7_startWith_19 1 rfl rfl (pc2 := 20) rfl ?_
  refine e_getI fl_X7_37 dX7_startWith_20 (okX4_o hv1) (by decide) (pc2 := 23) rfl ?_
  obtain ⟨s4, es4, hf⟩ := ltb_s hf
  refine e_putI fl_X7_40 dX7_startWith_23 (okX7_o hp_) fn_7_3 (h2 := hp s4) (by rw [es4]; rfl) (pc2 := 26) rfl ?_
  refine e_iconst (x := 0) dX7_startWith_26 (by decide) (pc2 := 27) rfl ?_
  refine e_istore_n dX7_startWith_27 rfl (by decide) rfl (ls' := [(0, .ref p), (1, .ref v1), (2, .int 0)]) [1, 2, 0] rfl (pc2 := 28) rfl ?_
  refine t_X7_startWith_l28 p v1 hp_ hv1 FU 0 s4 hf
abbrev DDX7_forget : Nat := 1
def f_X7_forget (p : Nat) (s : HS) : Option HS :=
  ltb (sI s p 6 0) fun s1 => ltb (sI s1 p 8 0) fun s2 => ltb (sI s2 p 10 0) fun s3 => some s3
set_option maxRecDepth 20000 in
set_option maxHeartbeats 2000000 in
theorem t_X7_forget (p : Nat) (hp_ : okX7 p = true) (s : HS) {t : HS} (hf : f_X7_forget  p s = some t) : Mt DDX7_forget miX7_forget [.ref p] NF (hp s) none NF (hp t) := by
  refine Mt.of (by decide +kernel) (Nat.le_refl _) (Nat.le_of_ble_eq_true rfl) ?_
  show Ev DDX7_forget miX7_forget NF none NF (hp t) 0 NF [(0, .ref p)] [] (hp s)
  unfold f_X7_forget at hf
  refine e_aload_n dX7_forget_0 0 rfl rfl (pc2 := 1) rfl ?_
  refine e_iconst (x := 0) dX7_forget_1 (by decide) (pc2 := 2) rfl ?_
  obtain ⟨s1, es1, hf⟩ := ltb_s hf
  refine e_putI fl_X7_52 dX7_forget_2 (okX7_o hp_) fn_7_6 (h2 := hp s1) (by rw [es1]; rfl) (pc2 := 5) rfl ?_
  refine e_aload_n dX7_forget_5 0 rfl rfl (pc2 := 6) rfl ?_
  refine e_iconst (x := 0) dX7_forget_6 (by decide) (pc2 := 7) rfl ?_
  obtain ⟨s2, es2, hf⟩ := ltb_s hf
  refine e_putI fl_X7_55 dX7_forget_7 (okX7_o hp_) fn_7_8 (h2 := hp s2) (by rw [es2]; rfl) (pc2 := 10) rfl ?_
  refine e_aload_n dX7_forget_10 0 rfl rfl (pc2 := 11) rfl ?_
  refine e_iconst (x := 0) dX7_forget_11 (by decide) (pc2 := 12) rfl ?_
  obtain ⟨s3, es3, hf⟩ := ltb_s hf
  refine e_putI fl_X7_58 dX7_forget_12 (okX7_o hp_) fn_7_10 (h2 := hp s3) (by rw [es3]; rfl) (pc2 := 15) rfl ?_
  cases hf
  exact e_vret rfl dX7_forget_15
abbrev DDX7_takeLines : Nat := 1
def f_X7_takeLines (p : Nat) (v1 : Nat) (v2 : Int32) (s : HS) : Option HS :=
  gd (cpok 0 0 (v2 * 3) ((sk v1).2) 120) (ltb (sA s (Rf p 5) (va_cpy (s.1 v1) (s.1 (Rf p 5)) (0 : Int32).toNatClampNeg (0 : Int32).toNatClampNeg (v2 * 3 : Int32).toNatClampNeg)) fun s1 => ltb (sI s1 p 6 v2) fun s3 => some s3)
set_option maxRecDepth 20000 in
set_option maxHeartbeats 2000000 in
theorem t_X7_takeLines (p : Nat) (hp_ : okX7 p = true) (v1 : Nat) (hv1 : aok 1 v1 = true) (v2 : Int32) (s : HS) {t : HS} (hf : f_X7_takeLines  p v1 v2 s = some t) : Mt DDX7_takeLines miX7_takeLines [.ref p, .ref v1, .int v2] NF (hp s) none NF (hp t) := by
  refine Mt.of (by decide +kernel) (Nat.le_refl _) (Nat.le_of_ble_eq_true rfl) ?_
  show Ev DDX7_takeLines miX7_takeLines NF none NF (hp t) 0 NF [(0, .ref p), (1, .ref v1), (2, .int v2)] [] (hp s)
  unfold f_X7_takeLines at hf
  refine e_aload_n dX7_takeLines_0 1 rfl rfl (pc2 := 1) rfl ?_
  refine e_iconst (x := 0) dX7_takeLines_1 (by decide) (pc2 := 2) rfl ?_
  refine e_aload_n dX7_takeLines_2 0 rfl rfl (pc2 := 3) rfl ?_
  refine e_getR (r := Rf p 5) fl_X7_15 dX7_takeLines_3 (okX7_o hp_) (okX7_R hp_) (isA_ne (okX7_lines hp_)) (pc2 := 6) rfl ?_
  refine e_iconst (x := 0) dX7_takeLines_6 (by decide) (pc2 := 7) rfl ?_
  refine e_iload_n dX7_takeLines_7 2 rfl rfl (pc2 := 8) rfl ?_
  refine e_iconst (x := 3) dX7_takeLines_8 (by decide) (pc2 := 9) rfl ?_
  refine e_imul dX7_takeLines_9 (pc2 := 10) rfl ?_
  obtain ⟨g2, hf⟩ := gd_some hf
  obtain ⟨s1, es1, hf⟩ := ltb_s hf
  refine e_acopy dX7_takeLines_10 mm_X7_61 (aok_a hv1) (okX7_lines hp_) (cp1 g2) (cp2 g2) (cp3 g2) (cp4 g2) (cp5 g2) (by decide) nn0 (by first | exact Nat.le_of_ble_eq_true rfl | simp [rva_cat, vc_i, vc_r, vc_l, vc_n]) (h2 := hp s1) (by rw [es1]; rfl) (pc2 := 13) rfl ?_
  refine e_aload_n dX7_takeLines_13 0 rfl rfl (pc2 := 14) rfl ?_
  refine e_iload_n dX7_takeLines_14 2 rfl rfl (pc2 := 15) rfl ?_
  obtain ⟨s3, es3, hf⟩ := ltb_s hf
  refine e_putI fl_X7_52 dX7_takeLines_15 (okX7_o hp_) fn_7_6 (h2 := hp s3) (by rw [es3]; rfl) (pc2 := 18) rfl ?_
  cases hf
  exact e_vret rfl dX7_takeLines_18
abbrev DDX7_copyHand : Nat := 1
def f_X7_copyHand (p : Nat) (v1 : Nat) (s : HS) : Option HS :=
  ltb (sI s p 0 (s.1 v1 0)) fun s1 => ltb (sI s1 p 1 (s1.1 v1 1)) fun s2 => ltb (sI s2 p 2 (s2.1 v1 2)) fun s3 => ltb (sI s3 p 3 (s3.1 v1 3)) fun s4 => gd (cpok 0 0 5 5 5) (ltb (sA s4 (Rf p 4) (va_cpy (s4.1 (Rf v1 4)) (s4.1 (Rf p 4)) (0 : Int32).toNatClampNeg (0 : Int32).toNatClampNeg (5 : Int32).toNatClampNeg)) fun s5 => some s5)
set_option maxRecDepth 20000 in
set_option maxHeartbeats 2000000 in
theorem t_X7_copyHand (p : Nat) (hp_ : okX7 p = true) (v1 : Nat) (hv1 : okX7 v1 = true) (s : HS) {t : HS} (hf : f_X7_copyHand  p v1 s = some t) : Mt DDX7_copyHand miX7_copyHand [.ref p, .ref v1] NF (hp s) none NF (hp t) := by
  refine Mt.of (by decide +kernel) (Nat.le_refl _) (Nat.le_of_ble_eq_true rfl) ?_
  show Ev DDX7_copyHand miX7_copyHand NF none NF (hp t) 0 NF [(0, .ref p), (1, .ref v1)] [] (hp s)
  unfold f_X7_copyHand at hf
  refine e_aload_n dX7_copyHand_0 0 rfl rfl (pc2 := 1) rfl ?_
  refine e_aload_n dX7_copyHand_1 1 rfl rfl (pc2 := 2) rfl ?_
  refine e_getI fl_X7_24 dX7_copyHand_2 (okX7_o hv1) (by decide) (pc2 := 5) rfl ?_
  obtain ⟨s1, es1, hf⟩ := ltb_s hf
  refine e_putI fl_X7_24 dX7_copyHand_5 (okX7_o hp_) fn_7_0 (h2 := hp s1) (by rw [es1]; rfl) (pc2 := 8) rfl ?_
  refine e_aload_n dX7_copyHand_8 0 rfl rfl (pc2 := 9) rfl ?_
  refine e_aload_n dX7_copyHand_9 1 rfl rfl (pc2 := 10) rfl ?_
  refine e_getI fl_X7_33 dX7_copyHand_10 (okX7_o hv1) (by decide) (pc2 := 13) rfl ?_
  obtain ⟨s2, es2, hf⟩ := ltb_s hf
  refine e_putI fl_X7_33 dX7_copyHand_13 (okX7_o hp_) fn_7_1 (h2 := hp s2) (by rw [es2]; rfl) (pc2 := 16) rfl ?_
  refine e_aload_n dX7_copyHand_16 0 rfl rfl (pc2 := 17) rfl ?_
  refine e_aload_n dX7_copyHand_17 1 rfl rfl (pc2 := 18) rfl ?_
  refine e_getI fl_X7_34 dX7_copyHand_18 (okX7_o hv1) (by decide) (pc2 := 21) rfl ?_
  obtain ⟨s3, es3, hf⟩ := ltb_s hf
  refine e_putI fl_X7_34 dX7_copyHand_21 (okX7_o hp_) fn_7_2 (h2 := hp s3) (by rw [es3]; rfl) (pc2 := 24) rfl ?_
  refine e_aload_n dX7_copyHand_24 0 rfl rfl (pc2 := 25) rfl ?_
  refine e_aload_n dX7_copyHand_25 1 rfl rfl (pc2 := 26) rfl ?_
  refine e_getI fl_X7_40 dX7_copyHand_26 (okX7_o hv1) (by decide) (pc2 := 29) rfl ?_
  obtain ⟨s4, es4, hf⟩ := ltb_s hf
  refine e_putI fl_X7_40 dX7_copyHand_29 (okX7_o hp_) fn_7_3 (h2 := hp s4) (by rw [es4]; rfl) (pc2 := 32) rfl ?_
  refine e_aload_n dX7_copyHand_32 1 rfl rfl (pc2 := 33) rfl ?_
  refine e_getR (r := Rf v1 4) fl_X7_9 dX7_copyHand_33 (okX7_o hv1) (okX7_R hv1) (isA_ne (okX7_hot hv1)) (pc2 := 36) rfl ?_
  refine e_iconst (x := 0) dX7_copyHand_36 (by decide) (pc2 := 37) rfl ?_
  refine e_aload_n dX7_copyHand_37 0 rfl rfl (pc2 := 38) rfl ?_
  refine e_getR (r := Rf p 4) fl_X7_9 dX7_copyHand_38 (okX7_o hp_) (okX7_R hp_) (isA_ne (okX7_hot hp_)) (pc2 := 41) rfl ?_
  refine e_iconst (x := 0) dX7_copyHand_41 (by decide) (pc2 := 42) rfl ?_
  refine e_aload_n dX7_copyHand_42 0 rfl rfl (pc2 := 43) rfl ?_
  refine e_getR (r := Rf p 4) fl_X7_9 dX7_copyHand_43 (okX7_o hp_) (okX7_R hp_) (isA_ne (okX7_hot hp_)) (pc2 := 46) rfl ?_
  refine e_alen (x := 5) dX7_copyHand_46 (okX7_hot hp_) (by decide) (by decide) (pc2 := 47) rfl ?_
  obtain ⟨g6, hf⟩ := gd_some hf
  obtain ⟨s5, es5, hf⟩ := ltb_s hf
  refine e_acopy dX7_copyHand_47 mm_X7_61 (okX7_hot hv1) (okX7_hot hp_) (cp1 g6) (cp2 g6) (cp3 g6) (cp4 g6) (cp5 g6) (by decide) nn0 (by first | exact Nat.le_of_ble_eq_true rfl | simp [rva_cat, vc_i, vc_r, vc_l, vc_n]) (h2 := hp s5) (by rw [es5]; rfl) (pc2 := 50) rfl ?_
  cases hf
  exact e_vret rfl dX7_copyHand_50
abbrev DDX7_copyAll : Nat := 2
def f_X7_copyAll (p : Nat) (v1 : Nat) (s : HS) : Option HS :=
  bnd (f_X7_copyHand p v1 s) fun s2 => bnd (f_X7_takeLines p (Rf v1 5) (s2.1 v1 6) s2) fun s4 => gd (cpok 0 0 20 20 20) (ltb (sA s4 (Rf p 7) (va_cpy (s4.1 (Rf v1 7)) (s4.1 (Rf p 7)) (0 : Int32).toNatClampNeg (0 : Int32).toNatClampNeg (20 : Int32).toNatClampNeg)) fun s5 => ltb (sI s5 p 8 (s5.1 v1 8)) fun s7 => gd (cpok 0 0 12 12 12) (ltb (sA s7 (Rf p 9) (va_cpy (s7.1 (Rf v1 9)) (s7.1 (Rf p 9)) (0 : Int32).toNatClampNeg (0 : Int32).toNatClampNeg (12 : Int32).toNatClampNeg)) fun s8 => ltb (sI s8 p 10 (s8.1 v1 10)) fun s10 => some s10))
set_option maxRecDepth 20000 in
set_option maxHeartbeats 2000000 in
theorem t_X7_copyAll (p : Nat) (hp_ : okX7 p = true) (v1 : Nat) (hv1 : okX7 v1 = true) (s : HS) {t : HS} (hf : f_X7_copyAll  p v1 s = some t) : Mt DDX7_copyAll miX7_copyAll [.ref p, .ref v1] NF (hp s) none NF (hp t) := by
  refine Mt.of (by decide +kernel) (Nat.le_refl _) (Nat.le_of_ble_eq_true rfl) ?_
  show Ev DDX7_copyAll miX7_copyAll NF none NF (hp t) 0 NF [(0, .ref p), (1, .ref v1)] [] (hp s)
  unfold f_X7_copyAll at hf
  refine e_aload_n dX7_copyAll_0 0 rfl rfl (pc2 := 1) rfl ?_
  refine e_aload_n dX7_copyAll_1 1 rfl rfl (pc2 := 2) rfl ?_
  obtain ⟨s2, hy1, hf⟩ := bnd_s hf
  refine e_callVn (t_X7_copyHand p hp_ v1 hv1 s hy1) dX7_copyAll_2 cv_X7_67 rfl (okX7_o hp_) rc_7 (by decide) (by first | exact Nat.le_of_ble_eq_true rfl | simp [rva_cat, vc_i, vc_r, vc_l, vc_n]) nn0 rfl (pc2 := 5) rfl ?_
  refine e_aload_n dX7_copyAll_5 0 rfl rfl (pc2 := 6) rfl ?_
  refine e_aload_n dX7_copyAll_6 1 rfl rfl (pc2 := 7) rfl ?_
  refine e_getR (r := Rf v1 5) fl_X7_15 dX7_copyAll_7 (okX7_o hv1) (okX7_R hv1) (isA_ne (okX7_lines hv1)) (pc2 := 10) rfl ?_
  refine e_aload_n dX7_copyAll_10 1 rfl rfl (pc2 := 11) rfl ?_
  refine e_getI fl_X7_52 dX7_copyAll_11 (okX7_o hv1) (by decide) (pc2 := 14) rfl ?_
  obtain ⟨s4, hy3, hf⟩ := bnd_s hf
  refine e_callVn (t_X7_takeLines p hp_ (Rf v1 5) (aok_of (okX7_lines hv1)) (s2.1 v1 6) s2 hy3) dX7_copyAll_14 cv_X7_71 rfl (okX7_o hp_) rc_7 (by decide) (by first | exact Nat.le_of_ble_eq_true rfl | simp [rva_cat, vc_i, vc_r, vc_l, vc_n]) nn0 rfl (pc2 := 17) rfl ?_
  refine e_aload_n dX7_copyAll_17 1 rfl rfl (pc2 := 18) rfl ?_
  refine e_getR (r := Rf v1 7) fl_X7_18 dX7_copyAll_18 (okX7_o hv1) (okX7_R hv1) (isA_ne (okX7_sold hv1)) (pc2 := 21) rfl ?_
  refine e_iconst (x := 0) dX7_copyAll_21 (by decide) (pc2 := 22) rfl ?_
  refine e_aload_n dX7_copyAll_22 0 rfl rfl (pc2 := 23) rfl ?_
  refine e_getR (r := Rf p 7) fl_X7_18 dX7_copyAll_23 (okX7_o hp_) (okX7_R hp_) (isA_ne (okX7_sold hp_)) (pc2 := 26) rfl ?_
  refine e_iconst (x := 0) dX7_copyAll_26 (by decide) (pc2 := 27) rfl ?_
  refine e_aload_n dX7_copyAll_27 0 rfl rfl (pc2 := 28) rfl ?_
  refine e_getR (r := Rf p 7) fl_X7_18 dX7_copyAll_28 (okX7_o hp_) (okX7_R hp_) (isA_ne (okX7_sold hp_)) (pc2 := 31) rfl ?_
  refine e_alen (x := 20) dX7_copyAll_31 (okX7_sold hp_) (by decide) (by decide) (pc2 := 32) rfl ?_
  obtain ⟨g6, hf⟩ := gd_some hf
  obtain ⟨s5, es5, hf⟩ := ltb_s hf
  refine e_acopy dX7_copyAll_32 mm_X7_61 (okX7_sold hv1) (okX7_sold hp_) (cp1 g6) (cp2 g6) (cp3 g6) (cp4 g6) (cp5 g6) (by decide) nn0 (by first | exact Nat.le_of_ble_eq_true rfl | simp [rva_cat, vc_i, vc_r, vc_l, vc_n]) (h2 := hp s5) (by rw [es5]; rfl) (pc2 := 35) rfl ?_
  refine e_aload_n dX7_copyAll_35 0 rfl rfl (pc2 := 36) rfl ?_
  refine e_aload_n dX7_copyAll_36 1 rfl rfl (pc2 := 37) rfl ?_
  refine e_getI fl_X7_55 dX7_copyAll_37 (okX7_o hv1) (by decide) (pc2 := 40) rfl ?_
  obtain ⟨s7, es7, hf⟩ := ltb_s hf
  refine e_putI fl_X7_55 dX7_copyAll_40 (okX7_o hp_) fn_7_8 (h2 := hp s7) (by rw [es7]; rfl) (pc2 := 43) rfl ?_
  refine e_aload_n dX7_copyAll_43 1 rfl rfl (pc2 := 44) rfl ?_
  refine e_getR (r := Rf v1 9) fl_X7_21 dX7_copyAll_44 (okX7_o hv1) (okX7_R hv1) (isA_ne (okX7_seen hv1)) (pc2 := 47) rfl ?_
  refine e_iconst (x := 0) dX7_copyAll_47 (by decide) (pc2 := 48) rfl ?_
  refine e_aload_n dX7_copyAll_48 0 rfl rfl (pc2 := 49) rfl ?_
  refine e_getR (r := Rf p 9) fl_X7_21 dX7_copyAll_49 (okX7_o hp_) (okX7_R hp_) (isA_ne (okX7_seen hp_)) (pc2 := 52) rfl ?_
  refine e_iconst (x := 0) dX7_copyAll_52 (by decide) (pc2 := 53) rfl ?_
  refine e_aload_n dX7_copyAll_53 0 rfl rfl (pc2 := 54) rfl ?_
  refine e_getR (r := Rf p 9) fl_X7_21 dX7_copyAll_54 (okX7_o hp_) (okX7_R hp_) (isA_ne (okX7_seen hp_)) (pc2 := 57) rfl ?_
  refine e_alen (x := 12) dX7_copyAll_57 (okX7_seen hp_) (by decide) (by decide) (pc2 := 58) rfl ?_
  obtain ⟨g9, hf⟩ := gd_some hf
  obtain ⟨s8, es8, hf⟩ := ltb_s hf
  refine e_acopy dX7_copyAll_58 mm_X7_61 (okX7_seen hv1) (okX7_seen hp_) (cp1 g9) (cp2 g9) (cp3 g9) (cp4 g9) (cp5 g9) (by decide) nn0 (by first | exact Nat.le_of_ble_eq_true rfl | simp [rva_cat, vc_i, vc_r, vc_l, vc_n]) (h2 := hp s8) (by rw [es8]; rfl) (pc2 := 61) rfl ?_
  refine e_aload_n dX7_copyAll_61 0 rfl rfl (pc2 := 62) rfl ?_
  refine e_aload_n dX7_copyAll_62 1 rfl rfl (pc2 := 63) rfl ?_
  refine e_getI fl_X7_58 dX7_copyAll_63 (okX7_o hv1) (by decide) (pc2 := 66) rfl ?_
  obtain ⟨s10, es10, hf⟩ := ltb_s hf
  refine e_putI fl_X7_58 dX7_copyAll_66 (okX7_o hp_) fn_7_10 (h2 := hp s10) (by rw [es10]; rfl) (pc2 := 69) rfl ?_
  cases hf
  exact e_vret rfl dX7_copyAll_69
abbrev DDX7_valueOf : Nat := 1
def f_X7_valueOf (p : Nat) (v1 : Nat) (v2 : Int32) (v3 : Int32) (s : HS) : Option Int32 :=
  (if v2 = 0 then some (s.1 p 1) else if v2 = 1 then some (s.1 p 2) else if v2 = 2 then some (s.1 p 3) else if v2 = 3 then (if v3 < 0 then some (-1) else (if (s.1 v1 14) ≤ v3 then some (-1) else some (((s.1 p 0) >>> (v3 &&& 31)) &&& (1 : Int32)))) else if v2 = 4 then (if v3 < 0 then some (-1) else (if (s.1 v1 12) ≤ v3 then some (-1) else gd (inb v3 5) (some (s.1 (Rf p 4) v3.toNatClampNeg)))) else some (-1))
set_option maxRecDepth 20000 in
set_option maxHeartbeats 2000000 in
theorem t_X7_valueOf (p : Nat) (hp_ : okX7 p = true) (v1 : Nat) (hv1 : okX4 v1 = true) (v2 : Int32) (v3 : Int32) (s : HS) {x : Int32} (hf : f_X7_valueOf  p v1 v2 v3 s = some x) : Mt DDX7_valueOf miX7_valueOf [.ref p, .ref v1, .int v2, .int v3] NF (hp s) (some (.int x)) NF (hp s) := by
  refine Mt.of (by decide +kernel) (Nat.le_refl _) (Nat.le_of_ble_eq_true rfl) ?_
  show Ev DDX7_valueOf miX7_valueOf NF (some (.int x)) NF (hp s) 0 NF [(0, .ref p), (1, .ref v1), (2, .int v2), (3, .int v3)] [] (hp s)
  unfold f_X7_valueOf at hf
  refine e_iload_n dX7_valueOf_0 2 rfl rfl (pc2 := 1) rfl ?_
  by_cases c1 : v2 = 0
  · have hf := if_t c1 hf
    rw [c1]
    refine e_tableIn (tgt := 36) dX7_valueOf_1 (by decide) (by decide) rfl (by decide) ?_
    refine e_aload_n dX7_valueOf_36 0 rfl rfl (pc2 := 37) rfl ?_
    refine e_getI fl_X7_33 dX7_valueOf_37 (okX7_o hp_) (by decide) (pc2 := 40) rfl ?_
    cases hf
    exact e_iret rfl dX7_valueOf_40
  have hf := if_f c1 hf
  by_cases c2 : v2 = 1
  · have hf := if_t c2 hf
    rw [c2]
    refine e_tableIn (tgt := 41) dX7_valueOf_1 (by decide) (by decide) rfl (by decide) ?_
    refine e_aload_n dX7_valueOf_41 0 rfl rfl (pc2 := 42) rfl ?_
    refine e_getI fl_X7_34 dX7_valueOf_42 (okX7_o hp_) (by decide) (pc2 := 45) rfl ?_
    cases hf
    exact e_iret rfl dX7_valueOf_45
  have hf := if_f c2 hf
  by_cases c3 : v2 = 2
  · have hf := if_t c3 hf
    rw [c3]
    refine e_tableIn (tgt := 46) dX7_valueOf_1 (by decide) (by decide) rfl (by decide) ?_
    refine e_aload_n dX7_valueOf_46 0 rfl rfl (pc2 := 47) rfl ?_
    refine e_getI fl_X7_40 dX7_valueOf_47 (okX7_o hp_) (by decide) (pc2 := 50) rfl ?_
    cases hf
    exact e_iret rfl dX7_valueOf_50
  have hf := if_f c3 hf
  by_cases c4 : v2 = 3
  · have hf := if_t c4 hf
    rw [c4]
    refine e_tableIn (tgt := 51) dX7_valueOf_1 (by decide) (by decide) rfl (by decide) ?_
    refine e_iload_n dX7_valueOf_51 3 rfl rfl (pc2 := 52) rfl ?_
    refine e_if_lt (tgt := 74) dX7_valueOf_52 (by decide) (pc2 := 55) rfl (fun c5 => ?_) (fun c5 => ?_)
    · have hf := if_t c5 hf
      refine e_iconst (x := (-1)) dX7_valueOf_74 (by decide) (pc2 := 75) rfl ?_
      cases hf
      exact e_iret rfl dX7_valueOf_75
    · have hf := if_f c5 hf
      refine e_iload_n dX7_valueOf_55 3 rfl rfl (pc2 := 56) rfl ?_
      refine e_aload_n dX7_valueOf_56 1 rfl rfl (pc2 := 57) rfl ?_
      refine e_getI fl_X7_75 dX7_valueOf_57 (okX4_o hv1) (by decide) (pc2 := 60) rfl ?_
      refine e_icmp_ge (tgt := 74) dX7_valueOf_60 (by decide) (pc2 := 63) rfl (fun c6 => ?_) (fun c6 => ?_)
      · have hf := if_t c6 hf
        refine e_iconst (x := (-1)) dX7_valueOf_74 (by decide) (pc2 := 75) rfl ?_
        cases hf
        exact e_iret rfl dX7_valueOf_75
      · have hf := if_f c6 hf
        refine e_aload_n dX7_valueOf_63 0 rfl rfl (pc2 := 64) rfl ?_
        refine e_getI fl_X7_24 dX7_valueOf_64 (okX7_o hp_) (by decide) (pc2 := 67) rfl ?_
        refine e_iload_n dX7_valueOf_67 3 rfl rfl (pc2 := 68) rfl ?_
        refine e_ishr dX7_valueOf_68 (pc2 := 69) rfl ?_
        refine e_iconst (x := 1) dX7_valueOf_69 (by decide) (pc2 := 70) rfl ?_
        refine e_iand dX7_valueOf_70 (pc2 := 71) rfl ?_
        refine e_goto (tgt := 75) dX7_valueOf_71 (by decide) ?_
        cases hf
        exact e_iret rfl dX7_valueOf_75
  have hf := if_f c4 hf
  by_cases c7 : v2 = 4
  · have hf := if_t c7 hf
    rw [c7]
    refine e_tableIn (tgt := 76) dX7_valueOf_1 (by decide) (by decide) rfl (by decide) ?_
    refine e_iload_n dX7_valueOf_76 3 rfl rfl (pc2 := 77) rfl ?_
    refine e_if_lt (tgt := 97) dX7_valueOf_77 (by decide) (pc2 := 80) rfl (fun c8 => ?_) (fun c8 => ?_)
    · have hf := if_t c8 hf
      refine e_iconst (x := (-1)) dX7_valueOf_97 (by decide) (pc2 := 98) rfl ?_
      cases hf
      exact e_iret rfl dX7_valueOf_98
    · have hf := if_f c8 hf
      refine e_iload_n dX7_valueOf_80 3 rfl rfl (pc2 := 81) rfl ?_
      refine e_aload_n dX7_valueOf_81 1 rfl rfl (pc2 := 82) rfl ?_
      refine e_getI fl_X7_41 dX7_valueOf_82 (okX4_o hv1) (by decide) (pc2 := 85) rfl ?_
      refine e_icmp_ge (tgt := 97) dX7_valueOf_85 (by decide) (pc2 := 88) rfl (fun c9 => ?_) (fun c9 => ?_)
      · have hf := if_t c9 hf
        refine e_iconst (x := (-1)) dX7_valueOf_97 (by decide) (pc2 := 98) rfl ?_
        cases hf
        exact e_iret rfl dX7_valueOf_98
      · have hf := if_f c9 hf
        refine e_aload_n dX7_valueOf_88 0 rfl rfl (pc2 := 89) rfl ?_
        refine e_getR (r := Rf p 4) fl_X7_9 dX7_valueOf_89 (okX7_o hp_) (okX7_R hp_) (isA_ne (okX7_hot hp_)) (pc2 := 92) rfl ?_
        refine e_iload_n dX7_valueOf_92 3 rfl rfl (pc2 := 93) rfl ?_
        obtain ⟨g10, hf⟩ := gd_some hf
        refine e_iald dX7_valueOf_93 (okX7_hot hp_) (inb_v g10) (pc2 := 94) rfl ?_
        refine e_goto (tgt := 98) dX7_valueOf_94 (by decide) ?_
        cases hf
        exact e_iret rfl dX7_valueOf_98
  have hf := if_f c7 hf
  refine e_tableOut (tgt := 99) dX7_valueOf_1 ?_ (by decide) ?_
  · have q0 := lv_neT (a := 0) c1 (by decide)
    have q1 := lv_neT (a := 1) c2 (by decide)
    have q2 := lv_neT (a := 2) c3 (by decide)
    have q3 := lv_neT (a := 3) c4 (by decide)
    have q4 := lv_neT (a := 4) c7 (by decide)
    omega
  refine e_iconst (x := (-1)) dX7_valueOf_99 (by decide) (pc2 := 100) rfl ?_
  cases hf
  exact e_iret rfl dX7_valueOf_100
abbrev DDX7_isAllowed : Nat := 1
def f_X7_isAllowed (v0 : Nat) (v1 : Int32) (v2 : Int32) (s : HS) : Int32 :=
  (if v1 = 0 then (if v2 < 1 then 0 else (if (s.1 v0 0) < v2 then 0 else 1)) else if v1 = 1 then (if v2 < 0 then 0 else (if 200 < v2 then 0 else 1)) else if v1 = 2 then (if v2 < 1 then 0 else (if 2 < v2 then 0 else 1)) else if v1 = 3 then (if v2 = 0 then 1 else (if v2 = 1 then 1 else 0)) else (if v2 < 0 then 0 else (if 99 < v2 then 0 else 1)))
set_option maxRecDepth 20000 in
set_option maxHeartbeats 2000000 in
theorem t_X7_isAllowed (v0 : Nat) (hv0 : okX4 v0 = true) (v1 : Int32) (v2 : Int32) (s : HS) {x : Int32} (hf : f_X7_isAllowed  v0 v1 v2 s = x) : Mt DDX7_isAllowed miX7_isAllowed [.ref v0, .int v1, .int v2] NF (hp s) (some (.int x)) NF (hp s) := by
  refine Mt.of (by decide +kernel) (Nat.le_refl _) (Nat.le_of_ble_eq_true rfl) ?_
  show Ev DDX7_isAllowed miX7_isAllowed NF (some (.int x)) NF (hp s) 0 NF [(0, .ref v0), (1, .int v1), (2, .int v2)] [] (hp s)
  unfold f_X7_isAllowed at hf
  refine e_iload_n dX7_isAllowed_0 1 rfl rfl (pc2 := 1) rfl ?_
  by_cases c1 : v1 = 0
  · have hf := if_t c1 hf
    rw [c1]
    refine e_tableIn (tgt := 32) dX7_isAllowed_1 (by decide) (by decide) rfl (by decide) ?_
    refine e_iload_n dX7_isAllowed_32 2 rfl rfl (pc2 := 33) rfl ?_
    refine e_iconst (x := 1) dX7_isAllowed_33 (by decide) (pc2 := 34) rfl ?_
    refine e_icmp_lt (tgt := 49) dX7_isAllowed_34 (by decide) (pc2 := 37) rfl (fun c2 => ?_) (fun c2 => ?_)
    · have hf := if_t c2 hf
      refine e_iconst (x := 0) dX7_isAllowed_49 (by decide) (pc2 := 50) rfl ?_
      cases hf
      exact e_zret (by decide) rfl dX7_isAllowed_50
    · have hf := if_f c2 hf
      refine e_iload_n dX7_isAllowed_37 2 rfl rfl (pc2 := 38) rfl ?_
      refine e_aload_n dX7_isAllowed_38 0 rfl rfl (pc2 := 39) rfl ?_
      refine e_getI fl_X7_86 dX7_isAllowed_39 (okX4_o hv0) (by decide) (pc2 := 42) rfl ?_
      refine e_icmp_gt (tgt := 49) dX7_isAllowed_42 (by decide) (pc2 := 45) rfl (fun c3 => ?_) (fun c3 => ?_)
      · have hf := if_t c3 hf
        refine e_iconst (x := 0) dX7_isAllowed_49 (by decide) (pc2 := 50) rfl ?_
        cases hf
        exact e_zret (by decide) rfl dX7_isAllowed_50
      · have hf := if_f c3 hf
        refine e_iconst (x := 1) dX7_isAllowed_45 (by decide) (pc2 := 46) rfl ?_
        refine e_goto (tgt := 50) dX7_isAllowed_46 (by decide) ?_
        cases hf
        exact e_zret (by decide) rfl dX7_isAllowed_50
  have hf := if_f c1 hf
  by_cases c4 : v1 = 1
  · have hf := if_t c4 hf
    rw [c4]
    refine e_tableIn (tgt := 51) dX7_isAllowed_1 (by decide) (by decide) rfl (by decide) ?_
    refine e_iload_n dX7_isAllowed_51 2 rfl rfl (pc2 := 52) rfl ?_
    refine e_if_lt (tgt := 66) dX7_isAllowed_52 (by decide) (pc2 := 55) rfl (fun c5 => ?_) (fun c5 => ?_)
    · have hf := if_t c5 hf
      refine e_iconst (x := 0) dX7_isAllowed_66 (by decide) (pc2 := 67) rfl ?_
      cases hf
      exact e_zret (by decide) rfl dX7_isAllowed_67
    · have hf := if_f c5 hf
      refine e_iload_n dX7_isAllowed_55 2 rfl rfl (pc2 := 56) rfl ?_
      refine e_sipush (x := 200) dX7_isAllowed_56 (by decide) (pc2 := 59) rfl ?_
      refine e_icmp_gt (tgt := 66) dX7_isAllowed_59 (by decide) (pc2 := 62) rfl (fun c6 => ?_) (fun c6 => ?_)
      · have hf := if_t c6 hf
        refine e_iconst (x := 0) dX7_isAllowed_66 (by decide) (pc2 := 67) rfl ?_
        cases hf
        exact e_zret (by decide) rfl dX7_isAllowed_67
      · have hf := if_f c6 hf
        refine e_iconst (x := 1) dX7_isAllowed_62 (by decide) (pc2 := 63) rfl ?_
        refine e_goto (tgt := 67) dX7_isAllowed_63 (by decide) ?_
        cases hf
        exact e_zret (by decide) rfl dX7_isAllowed_67
  have hf := if_f c4 hf
  by_cases c7 : v1 = 2
  · have hf := if_t c7 hf
    rw [c7]
    refine e_tableIn (tgt := 68) dX7_isAllowed_1 (by decide) (by decide) rfl (by decide) ?_
    refine e_iload_n dX7_isAllowed_68 2 rfl rfl (pc2 := 69) rfl ?_
    refine e_iconst (x := 1) dX7_isAllowed_69 (by decide) (pc2 := 70) rfl ?_
    refine e_icmp_lt (tgt := 82) dX7_isAllowed_70 (by decide) (pc2 := 73) rfl (fun c8 => ?_) (fun c8 => ?_)
    · have hf := if_t c8 hf
      refine e_iconst (x := 0) dX7_isAllowed_82 (by decide) (pc2 := 83) rfl ?_
      cases hf
      exact e_zret (by decide) rfl dX7_isAllowed_83
    · have hf := if_f c8 hf
      refine e_iload_n dX7_isAllowed_73 2 rfl rfl (pc2 := 74) rfl ?_
      refine e_iconst (x := 2) dX7_isAllowed_74 (by decide) (pc2 := 75) rfl ?_
      refine e_icmp_gt (tgt := 82) dX7_isAllowed_75 (by decide) (pc2 := 78) rfl (fun c9 => ?_) (fun c9 => ?_)
      · have hf := if_t c9 hf
        refine e_iconst (x := 0) dX7_isAllowed_82 (by decide) (pc2 := 83) rfl ?_
        cases hf
        exact e_zret (by decide) rfl dX7_isAllowed_83
      · have hf := if_f c9 hf
        refine e_iconst (x := 1) dX7_isAllowed_78 (by decide) (pc2 := 79) rfl ?_
        refine e_goto (tgt := 83) dX7_isAllowed_79 (by decide) ?_
        cases hf
        exact e_zret (by decide) rfl dX7_isAllowed_83
  have hf := if_f c7 hf
  by_cases c10 : v1 = 3
  · have hf := if_t c10 hf
    rw [c10]
    refine e_tableIn (tgt := 84) dX7_isAllowed_1 (by decide) (by decide) rfl (by decide) ?_
    refine e_iload_n dX7_isAllowed_84 2 rfl rfl (pc2 := 85) rfl ?_
    refine e_if_eq (tgt := 93) dX7_isAllowed_85 (by decide) (pc2 := 88) rfl (fun c11 => ?_) (fun c11 => ?_)
    · have hf := if_t c11 hf
      refine e_iconst (x := 1) dX7_isAllowed_93 (by decide) (pc2 := 94) rfl ?_
      refine e_goto (tgt := 98) dX7_isAllowed_94 (by decide) ?_
      cases hf
      exact e_zret (by decide) rfl dX7_isAllowed_98
    · have hf := if_f c11 hf
      refine e_iload_n dX7_isAllowed_88 2 rfl rfl (pc2 := 89) rfl ?_
      refine e_iconst (x := 1) dX7_isAllowed_89 (by decide) (pc2 := 90) rfl ?_
      refine e_icmp_ne (tgt := 97) dX7_isAllowed_90 (by decide) (pc2 := 93) rfl (fun c12 => ?_) (fun c12 => ?_)
      · have hf := if_f c12 hf
        refine e_iconst (x := 0) dX7_isAllowed_97 (by decide) (pc2 := 98) rfl ?_
        cases hf
        exact e_zret (by decide) rfl dX7_isAllowed_98
      · have hf := if_t c12 hf
        refine e_iconst (x := 1) dX7_isAllowed_93 (by decide) (pc2 := 94) rfl ?_
        refine e_goto (tgt := 98) dX7_isAllowed_94 (by decide) ?_
        cases hf
        exact e_zret (by decide) rfl dX7_isAllowed_98
  have hf := if_f c10 hf
  refine e_tableOut (tgt := 99) dX7_isAllowed_1 ?_ (by decide) ?_
  · have q0 := lv_neT (a := 0) c1 (by decide)
    have q1 := lv_neT (a := 1) c4 (by decide)
    have q2 := lv_neT (a := 2) c7 (by decide)
    have q3 := lv_neT (a := 3) c10 (by decide)
    omega
  refine e_iload_n dX7_isAllowed_99 2 rfl rfl (pc2 := 100) rfl ?_
  refine e_if_lt (tgt := 113) dX7_isAllowed_100 (by decide) (pc2 := 103) rfl (fun c13 => ?_) (fun c13 => ?_)
  · have hf := if_t c13 hf
    refine e_iconst (x := 0) dX7_isAllowed_113 (by decide) (pc2 := 114) rfl ?_
    cases hf
    exact e_zret (by decide) rfl dX7_isAllowed_114
  · have hf := if_f c13 hf
    refine e_iload_n dX7_isAllowed_103 2 rfl rfl (pc2 := 104) rfl ?_
    refine e_bipush (x := 99) dX7_isAllowed_104 (by decide) (pc2 := 106) rfl ?_
    refine e_icmp_gt (tgt := 113) dX7_isAllowed_106 (by decide) (pc2 := 109) rfl (fun c14 => ?_) (fun c14 => ?_)
    · have hf := if_t c14 hf
      refine e_iconst (x := 0) dX7_isAllowed_113 (by decide) (pc2 := 114) rfl ?_
      cases hf
      exact e_zret (by decide) rfl dX7_isAllowed_114
    · have hf := if_f c14 hf
      refine e_iconst (x := 1) dX7_isAllowed_109 (by decide) (pc2 := 110) rfl ?_
      refine e_goto (tgt := 114) dX7_isAllowed_110 (by decide) ?_
      cases hf
      exact e_zret (by decide) rfl dX7_isAllowed_114
abbrev DDX7_change : Nat := 2
def f_X7_change (p : Nat) (v1 : Nat) (v2 : Int32) (v3 : Int32) (v4 : Int32) (s : HS) : Option (Int32 × HS) :=
  bnd (f_X7_valueOf p v1 v2 v3 s) fun y1 => (if y1 = (-1) then some (0, s) else (if y1 = v4 then some (0, s) else (if (f_X7_isAllowed v1 v2 v4 s) = 0 then some (0, s) else (if v2 = 0 then ltb (sI s p 1 v4) fun s6 => some (1, s6) else if v2 = 1 then ltb (sI s p 2 v4) fun s8 => some (1, s8) else if v2 = 2 then ltb (sI s p 3 v4) fun s10 => some (1, s10) else if v2 = 3 then ltb (sI s p 0 ((s.1 p 0) ^^^ ((1 : Int32) <<< (v3 &&& 31)))) fun s12 => some (1, s12) else gd (inb v3 5) (ltb (sI s (Rf p 4) (v3.toNatClampNeg) v4) fun s13 => some (1, s13))))))
set_option maxRecDepth 20000 in
set_option maxHeartbeats 2000000 in
theorem t_X7_change (p : Nat) (hp_ : okX7 p = true) (v1 : Nat) (hv1 : okX4 v1 = true) (v2 : Int32) (v3 : Int32) (v4 : Int32) (s : HS) {x : Int32} {t : HS} (hf : f_X7_change  p v1 v2 v3 v4 s = some (x, t)) : Mt DDX7_change miX7_change [.ref p, .ref v1, .int v2, .int v3, .int v4] NF (hp s) (some (.int x)) NF (hp t) := by
  refine Mt.of (by decide +kernel) (Nat.le_refl _) (Nat.le_of_ble_eq_true rfl) ?_
  show Ev DDX7_change miX7_change NF (some (.int x)) NF (hp t) 0 NF [(0, .ref p), (1, .ref v1), (2, .int v2), (3, .int v3), (4, .int v4)] [] (hp s)
  unfold f_X7_change at hf
  refine e_aload_n dX7_change_0 0 rfl rfl (pc2 := 1) rfl ?_
  refine e_aload_n dX7_change_1 1 rfl rfl (pc2 := 2) rfl ?_
  refine e_iload_n dX7_change_2 2 rfl rfl (pc2 := 3) rfl ?_
  refine e_iload_n dX7_change_3 3 rfl rfl (pc2 := 4) rfl ?_
  obtain ⟨y1, hy1, hf⟩ := bnd_s hf
  refine e_callVs (t_X7_valueOf p hp_ v1 hv1 v2 v3 s hy1) dX7_change_4 cv_X7_78 rfl (okX7_o hp_) rc_7 (by decide) (by first | exact Nat.le_of_ble_eq_true rfl | simp [rva_cat, vc_i, vc_r, vc_l, vc_n]) nn0 rfl (pc2 := 7) rfl ?_
  refine e_istore dX7_change_7 (by decide) rfl (ls' := [(0, .ref p), (1, .ref v1), (2, .int v2), (3, .int v3), (4, .int v4), (5, .int y1)]) [1, 2, 3, 4, 5, 0] rfl (pc2 := 9) rfl ?_
  refine e_iload dX7_change_9 5 rfl (pc2 := 11) rfl ?_
  refine e_iconst (x := (-1)) dX7_change_11 (by decide) (pc2 := 12) rfl ?_
  refine e_icmp_eq (tgt := 32) dX7_change_12 (by decide) (pc2 := 15) rfl (fun c2 => ?_) (fun c2 => ?_)
  · have hf := if_t c2 hf
    refine e_iconst (x := 0) dX7_change_32 (by decide) (pc2 := 33) rfl ?_
    cases hf
    exact e_zret (by decide) rfl dX7_change_33
  · have hf := if_f c2 hf
    refine e_iload dX7_change_15 5 rfl (pc2 := 17) rfl ?_
    refine e_iload dX7_change_17 4 rfl (pc2 := 19) rfl ?_
    refine e_icmp_eq (tgt := 32) dX7_change_19 (by decide) (pc2 := 22) rfl (fun c3 => ?_) (fun c3 => ?_)
    · have hf := if_t c3 hf
      refine e_iconst (x := 0) dX7_change_32 (by decide) (pc2 := 33) rfl ?_
      cases hf
      exact e_zret (by decide) rfl dX7_change_33
    · have hf := if_f c3 hf
      refine e_aload_n dX7_change_22 1 rfl rfl (pc2 := 23) rfl ?_
      refine e_iload_n dX7_change_23 2 rfl rfl (pc2 := 24) rfl ?_
      refine e_iload dX7_change_24 4 rfl (pc2 := 26) rfl ?_
      refine e_callSs (t_X7_isAllowed v1 hv1 v2 v4 s rfl) dX7_change_26 cs_X7_82 rfl (by decide) (by first | exact Nat.le_of_ble_eq_true rfl | simp [rva_cat, vc_i, vc_r, vc_l, vc_n]) nn0 rfl (pc2 := 29) rfl ?_
      refine e_if_ne (tgt := 34) dX7_change_29 (by decide) (pc2 := 32) rfl (fun c4 => ?_) (fun c4 => ?_)
      · have hf := if_f c4 hf
        refine e_iload_n dX7_change_34 2 rfl rfl (pc2 := 35) rfl ?_
        by_cases c5 : v2 = 0
        · have hf := if_t c5 hf
          rw [c5]
          refine e_tableIn (tgt := 64) dX7_change_35 (by decide) (by decide) rfl (by decide) ?_
          refine e_aload_n dX7_change_64 0 rfl rfl (pc2 := 65) rfl ?_
          refine e_iload dX7_change_65 4 rfl (pc2 := 67) rfl ?_
          obtain ⟨s6, es6, hf⟩ := ltb_s hf
          refine e_putI fl_X7_33 dX7_change_67 (okX7_o hp_) fn_7_1 (h2 := hp s6) (by rw [es6]; rfl) (pc2 := 70) rfl ?_
          refine e_goto (tgt := 114) dX7_change_70 (by decide) ?_
          refine e_iconst (x := 1) dX7_change_114 (by decide) (pc2 := 115) rfl ?_
          cases hf
          exact e_zret (by decide) rfl dX7_change_115
        have hf := if_f c5 hf
        by_cases c7 : v2 = 1
        · have hf := if_t c7 hf
          rw [c7]
          refine e_tableIn (tgt := 73) dX7_change_35 (by decide) (by decide) rfl (by decide) ?_
          refine e_aload_n dX7_change_73 0 rfl rfl (pc2 := 74) rfl ?_
          refine e_iload dX7_change_74 4 rfl (pc2 := 76) rfl ?_
          obtain ⟨s8, es8, hf⟩ := ltb_s hf
          refine e_putI fl_X7_34 dX7_change_76 (okX7_o hp_) fn_7_2 (h2 := hp s8) (by rw [es8]; rfl) (pc2 := 79) rfl ?_
          refine e_goto (tgt := 114) dX7_change_79 (by decide) ?_
          refine e_iconst (x := 1) dX7_change_114 (by decide) (pc2 := 115) rfl ?_
          cases hf
          exact e_zret (by decide) rfl dX7_change_115
        have hf := if_f c7 hf
        by_cases c9 : v2 = 2
        · have hf := if_t c9 hf
          rw [c9]
          refine e_tableIn (tgt := 82) dX7_change_35 (by decide) (by decide) rfl (by decide) ?_
          refine e_aload_n dX7_change_82 0 rfl rfl (pc2 := 83) rfl ?_
          refine e_iload dX7_change_83 4 rfl (pc2 := 85) rfl ?_
          obtain ⟨s10, es10, hf⟩ := ltb_s hf
          refine e_putI fl_X7_40 dX7_change_85 (okX7_o hp_) fn_7_3 (h2 := hp s10) (by rw [es10]; rfl) (pc2 := 88) rfl ?_
          refine e_goto (tgt := 114) dX7_change_88 (by decide) ?_
          refine e_iconst (x := 1) dX7_change_114 (by decide) (pc2 := 115) rfl ?_
          cases hf
          exact e_zret (by decide) rfl dX7_change_115
        have hf := if_f c9 hf
        by_cases c11 : v2 = 3
        · have hf := if_t c11 hf
          rw [c11]
          refine e_tableIn (tgt := 91) dX7_change_35 (by decide) (by decide) rfl (by decide) ?_
          refine e_aload_n dX7_change_91 0 rfl rfl (pc2 := 92) rfl ?_
          refine e_dup dX7_change_92 rfl (pc2 := 93) rfl ?_
          refine e_getI fl_X7_24 dX7_change_93 (okX7_o hp_) (by decide) (pc2 := 96) rfl ?_
          refine e_iconst (x := 1) dX7_change_96 (by decide) (pc2 := 97) rfl ?_
          refine e_iload_n dX7_change_97 3 rfl rfl (pc2 := 98) rfl ?_
          refine e_ishl dX7_change_98 (pc2 := 99) rfl ?_
          refine e_ixor dX7_change_99 (pc2 := 100) rfl ?_
          obtain ⟨s12, es12, hf⟩ := ltb_s hf
          refine e_putI fl_X7_24 dX7_change_100 (okX7_o hp_) fn_7_0 (h2 := hp s12) (by rw [es12]; rfl) (pc2 := 103) rfl ?_
          refine e_goto (tgt := 114) dX7_change_103 (by decide) ?_
          refine e_iconst (x := 1) dX7_change_114 (by decide) (pc2 := 115) rfl ?_
          cases hf
          exact e_zret (by decide) rfl dX7_change_115
        have hf := if_f c11 hf
        refine e_tableOut (tgt := 106) dX7_change_35 ?_ (by decide) ?_
        · have q0 := lv_neT (a := 0) c5 (by decide)
          have q1 := lv_neT (a := 1) c7 (by decide)
          have q2 := lv_neT (a := 2) c9 (by decide)
          have q3 := lv_neT (a := 3) c11 (by decide)
          omega
        refine e_aload_n dX7_change_106 0 rfl rfl (pc2 := 107) rfl ?_
        refine e_getR (r := Rf p 4) fl_X7_9 dX7_change_107 (okX7_o hp_) (okX7_R hp_) (isA_ne (okX7_hot hp_)) (pc2 := 110) rfl ?_
        refine e_iload_n dX7_change_110 3 rfl rfl (pc2 := 111) rfl ?_
        refine e_iload dX7_change_111 4 rfl (pc2 := 113) rfl ?_
        obtain ⟨g14, hf⟩ := gd_some hf
        obtain ⟨s13, es13, hf⟩ := ltb_s hf
        refine e_iast dX7_change_113 (okX7_hot hp_) (inb_v g14) (h2 := hp s13) (by rw [es13]; rfl) (pc2 := 114) rfl ?_
        refine e_iconst (x := 1) dX7_change_114 (by decide) (pc2 := 115) rfl ?_
        cases hf
        exact e_zret (by decide) rfl dX7_change_115
      · have hf := if_t c4 hf
        refine e_iconst (x := 0) dX7_change_32 (by decide) (pc2 := 33) rfl ?_
        cases hf
        exact e_zret (by decide) rfl dX7_change_33
abbrev DDX7_isLaw : Nat := 1
def f_X7_isLaw_l2b (v0 : Nat) (v1 : Int32) (v2 : Int32) (v3 : Int32) (k2 : Int32 → Option Int32) (s : HS) : Option Int32 :=
  (if (s.1 v0 8) ≤ v3 then some 1 else gd (inb (v3 * 2) 20) (gd (inb ((v3 * 2) + 1) 20) ((if (v1 + (v2 * (s.1 (Rf v0 7) (v3 * 2).toNatClampNeg))) = (s.1 (Rf v0 7) ((v3 * 2) + 1).toNatClampNeg) then ltb (v3 + 1) fun x5 => k2 x5 else some 0))))
set_option maxRecDepth 20000 in
set_option maxHeartbeats 2000000 in
theorem t_X7_isLaw_l2b (v0 : Nat) (v1 : Int32) (v2 : Int32) (v3 : Int32) (hv0 : okX7 v0 = true) (s : HS) {x : Int32} (k2 : Int32 → Option Int32) (hk2 : ∀ (a3 : Int32), k2 a3 = some x → Ev DDX7_isLaw miX7_isLaw NF (some (.int x)) NF (hp s) 2 NF [(0, .ref v0), (1, .int v1), (2, .int v2), (3, .int a3)] [] (hp s)) (hf : f_X7_isLaw_l2b v0 v1 v2 v3 k2 s = some x) : Ev DDX7_isLaw miX7_isLaw NF (some (.int x)) NF (hp s) 2 NF [(0, .ref v0), (1, .int v1), (2, .int v2), (3, .int v3)] [] (hp s) := by
  refine e_iload_n dX7_isLaw_2 3 rfl rfl (pc2 := 3) rfl ?_
  refine e_aload_n dX7_isLaw_3 0 rfl rfl (pc2 := 4) rfl ?_
  refine e_getI fl_X7_55 dX7_isLaw_4 (okX7_o hv0) (by decide) (pc2 := 7) rfl ?_
  refine e_icmp_ge (tgt := 43) dX7_isLaw_7 (by decide) (pc2 := 10) rfl (fun c1 => ?_) (fun c1 => ?_)
  · have hf := if_t c1 hf
    refine e_iconst (x := 1) dX7_isLaw_43 (by decide) (pc2 := 44) rfl ?_
    cases hf
    exact e_zret (by decide) rfl dX7_isLaw_44
  · have hf := if_f c1 hf
    refine e_iload_n dX7_isLaw_10 1 rfl rfl (pc2 := 11) rfl ?_
    refine e_iload_n dX7_isLaw_11 2 rfl rfl (pc2 := 12) rfl ?_
    refine e_aload_n dX7_isLaw_12 0 rfl rfl (pc2 := 13) rfl ?_
    refine e_getR (r := Rf v0 7) fl_X7_18 dX7_isLaw_13 (okX7_o hv0) (okX7_R hv0) (isA_ne (okX7_sold hv0)) (pc2 := 16) rfl ?_
    refine e_iload_n dX7_isLaw_16 3 rfl rfl (pc2 := 17) rfl ?_
    refine e_iconst (x := 2) dX7_isLaw_17 (by decide) (pc2 := 18) rfl ?_
    refine e_imul dX7_isLaw_18 (pc2 := 19) rfl ?_
    obtain ⟨g2, hf⟩ := gd_some hf
    refine e_iald dX7_isLaw_19 (okX7_sold hv0) (inb_v g2) (pc2 := 20) rfl ?_
    refine e_imul dX7_isLaw_20 (pc2 := 21) rfl ?_
    refine e_iadd dX7_isLaw_21 (pc2 := 22) rfl ?_
    refine e_aload_n dX7_isLaw_22 0 rfl rfl (pc2 := 23) rfl ?_
    refine e_getR (r := Rf v0 7) fl_X7_18 dX7_isLaw_23 (okX7_o hv0) (okX7_R hv0) (isA_ne (okX7_sold hv0)) (pc2 := 26) rfl ?_
    refine e_iload_n dX7_isLaw_26 3 rfl rfl (pc2 := 27) rfl ?_
    refine e_iconst (x := 2) dX7_isLaw_27 (by decide) (pc2 := 28) rfl ?_
    refine e_imul dX7_isLaw_28 (pc2 := 29) rfl ?_
    refine e_iconst (x := 1) dX7_isLaw_29 (by decide) (pc2 := 30) rfl ?_
    refine e_iadd dX7_isLaw_30 (pc2 := 31) rfl ?_
    obtain ⟨g3, hf⟩ := gd_some hf
    refine e_iald dX7_isLaw_31 (okX7_sold hv0) (inb_v g3) (pc2 := 32) rfl ?_
    refine e_icmp_eq (tgt := 37) dX7_isLaw_32 (by decide) (pc2 := 35) rfl (fun c4 => ?_) (fun c4 => ?_)
    · have hf := if_t c4 hf
      obtain ⟨x5, ex5, hf⟩ := ltb_s hf
      refine e_iinc dX7_isLaw_37 3 rfl (c9 := 1) (by decide) ex5.symm (by decide) (ls' := [(0, .ref v0), (1, .int v1), (2, .int v2), (3, .int x5)]) [1, 2, 3, 0] rfl (pc2 := 40) rfl ?_
      refine e_goto (tgt := 2) dX7_isLaw_40 (by decide) ?_
      exact hk2 x5 hf
    · have hf := if_f c4 hf
      refine e_iconst (x := 0) dX7_isLaw_35 (by decide) (pc2 := 36) rfl ?_
      cases hf
      exact e_zret (by decide) rfl dX7_isLaw_36
def f_X7_isLaw_l2 (v0 : Nat) (v1 : Int32) (v2 : Int32) (s : HS) : Nat → Int32 → Option Int32
  | 0, _ => none
  | n + 1, v3 => f_X7_isLaw_l2b v0 v1 v2 v3 (f_X7_isLaw_l2 v0 v1 v2 s n)  s
set_option maxRecDepth 20000 in
set_option maxHeartbeats 2000000 in
theorem t_X7_isLaw_l2 (v0 : Nat) (v1 : Int32) (v2 : Int32) (hv0 : okX7 v0 = true) (s : HS) {x : Int32}  : ∀ (n : Nat) (v3 : Int32), f_X7_isLaw_l2 v0 v1 v2 s n v3 = some x → Ev DDX7_isLaw miX7_isLaw NF (some (.int x)) NF (hp s) 2 NF [(0, .ref v0), (1, .int v1), (2, .int v2), (3, .int v3)] [] (hp s) := by
  intro n
  induction n with
  | zero =>
    intro v3 hf
    have hf : none = some x := hf
    cases hf
  | succ n ih =>
    intro v3 hf
    exact t_X7_isLaw_l2b v0 v1 v2 v3 hv0 s _ ih  hf
def f_X7_isLaw (p : Nat) (v1 : Int32) (v2 : Int32) (s : HS) : Option Int32 :=
  f_X7_isLaw_l2 p v1 v2 s FU 0
set_option maxRecDepth 20000 in
set_option maxHeartbeats 2000000 in
theorem t_X7_isLaw (p : Nat) (hp_ : okX7 p = true) (v1 : Int32) (v2 : Int32) (s : HS) {x : Int32} (hf : f_X7_isLaw  p v1 v2 s = some x) : Mt DDX7_isLaw miX7_isLaw [.ref p, .int v1, .int v2] NF (hp s) (some (.int x)) NF (hp s) := by
  refine Mt.of (by decide +kernel) (Nat.le_refl _) (Nat.le_of_ble_eq_true rfl) ?_
  show Ev DDX7_isLaw miX7_isLaw NF (some (.int x)) NF (hp s) 0 NF [(0, .ref p), (1, .int v1), (2, .int v2)] [] (hp s)
  unfold f_X7_isLaw at hf
  refine e_iconst (x := 0) dX7_isLaw_0 (by decide) (pc2 := 1) rfl ?_
  refine e_istore_n dX7_isLaw_1 rfl (by decide) rfl (ls' := [(0, .ref p), (1, .int v1), (2, .int v2), (3, .int 0)]) [1, 2, 3, 0] rfl (pc2 := 2) rfl ?_
  refine t_X7_isLaw_l2 p v1 v2 hp_ s FU 0 hf
abbrev DDX8_append : Nat := 1
def f_X8_append_j38 (v1 : Int64) (v3 : Int32) (v4 : Int32) (k3 : Int32 → HS → Option HS) (s : HS) : Option HS :=
  (if 1000 ≤ (s.1 36 1) then ltb (v3 + (-8)) fun x5 => k3 x5 s else gd (inb (s.1 36 1) 1000) (ltb (sI s 37 ((s.1 36 1).toNatClampNeg) (vp_nar .char (((v4 : Int32).toUInt32 % 65536).toInt32))) fun s6 => ltb (sI s6 36 1 ((s6.1 36 1) + 1)) fun s8 => ltb (v3 + (-8)) fun x9 => k3 x9 s8))
set_option maxRecDepth 20000 in
set_option maxHeartbeats 2000000 in
theorem t_X8_append_j38 (v1 : Int64) (v3 : Int32) (v4 : Int32) (s : HS) {t : HS} (k3 : Int32 → HS → Option HS) (hk3 : ∀ (a3 : Int32) (s : HS), k3 a3 s = some t → Ev DDX8_append miX8_append NF none NF (hp t) 3 NF [(0, .ref 36), (1, .long v1), (3, .int a3)] [] (hp s)) (hf : f_X8_append_j38 v1 v3 v4 k3 s = some t) : Ev DDX8_append miX8_append NF none NF (hp t) 38 NF [(0, .ref 36), (1, .long v1), (3, .int v3), (4, .int v4)] [] (hp s) := by
  refine e_aload_n dX8_append_38 0 rfl rfl (pc2 := 39) rfl ?_
  refine e_getI fl_X8_17 dX8_append_39 so_36 (by decide) (pc2 := 42) rfl ?_
  refine e_aload_n dX8_append_42 0 rfl rfl (pc2 := 43) rfl ?_
  refine e_getR (r := 37) fl_X8_9 dX8_append_43 so_36 (rs_36_0 s.2.2) (by decide) (pc2 := 46) rfl ?_
  refine e_alen (x := 1000) dX8_append_46 sa_37 (by decide) (by decide) (pc2 := 47) rfl ?_
  refine e_icmp_ge (tgt := 72) dX8_append_47 (by decide) (pc2 := 50) rfl (fun c4 => ?_) (fun c4 => ?_)
  · have hf := if_t c4 hf
    obtain ⟨x5, ex5, hf⟩ := ltb_s hf
    refine e_iinc dX8_append_72 2 rfl (c9 := (-8)) (by decide) ex5.symm (by decide) (ls' := [(0, .ref 36), (1, .long v1), (3, .int x5)]) [1, 2, 0] rfl (pc2 := 75) rfl ?_
    refine e_goto (tgt := 3) dX8_append_75 (by decide) ?_
    exact hk3 x5 s hf
  · have hf := if_f c4 hf
    refine e_aload_n dX8_append_50 0 rfl rfl (pc2 := 51) rfl ?_
    refine e_getR (r := 37) fl_X8_9 dX8_append_51 so_36 (rs_36_0 s.2.2) (by decide) (pc2 := 54) rfl ?_
    refine e_aload_n dX8_append_54 0 rfl rfl (pc2 := 55) rfl ?_
    refine e_getI fl_X8_17 dX8_append_55 so_36 (by decide) (pc2 := 58) rfl ?_
    refine e_iload dX8_append_58 3 rfl (pc2 := 60) rfl ?_
    refine e_i2c dX8_append_60 (pc2 := 61) rfl ?_
    obtain ⟨g7, hf⟩ := gd_some hf
    obtain ⟨s6, es6, hf⟩ := ltb_s hf
    refine e_cast dX8_append_61 sa_37 (inb_v g7) (h2 := hp s6) (by rw [es6]; rfl) (pc2 := 62) rfl ?_
    refine e_aload_n dX8_append_62 0 rfl rfl (pc2 := 63) rfl ?_
    refine e_dup dX8_append_63 rfl (pc2 := 64) rfl ?_
    refine e_getI fl_X8_17 dX8_append_64 so_36 (by decide) (pc2 := 67) rfl ?_
    refine e_iconst (x := 1) dX8_append_67 (by decide) (pc2 := 68) rfl ?_
    refine e_iadd dX8_append_68 (pc2 := 69) rfl ?_
    obtain ⟨s8, es8, hf⟩ := ltb_s hf
    refine e_putI fl_X8_17 dX8_append_69 so_36 fn_8_1 (h2 := hp s8) (by rw [es8]; rfl) (pc2 := 72) rfl ?_
    obtain ⟨x9, ex9, hf⟩ := ltb_s hf
    refine e_iinc dX8_append_72 2 rfl (c9 := (-8)) (by decide) ex9.symm (by decide) (ls' := [(0, .ref 36), (1, .long v1), (3, .int x9)]) [1, 2, 0] rfl (pc2 := 75) rfl ?_
    refine e_goto (tgt := 3) dX8_append_75 (by decide) ?_
    exact hk3 x9 s8 hf
def f_X8_append_l3b (v1 : Int64) (v3 : Int32) (k3 : Int32 → HS → Option HS) (s : HS) : Option HS :=
  (if v3 < 0 then some s else ltb (((((v1.toUInt64 >>> ((v3 : Int32).toInt64.toUInt64 &&& Int64.toUInt64 63)).toInt64) : Int64) &&& (255 : Int64) : Int64).toInt32) fun x2 => (if x2 = 10 then f_X8_append_j38 v1 v3 x2 k3 s else (if x2 < 32 then ltb (v3 + (-8)) fun x11 => k3 x11 s else (if 126 < x2 then ltb (v3 + (-8)) fun x13 => k3 x13 s else f_X8_append_j38 v1 v3 x2 k3 s))))
set_option maxRecDepth 20000 in
set_option maxHeartbeats 2000000 in
theorem t_X8_append_l3b (v1 : Int64) (v3 : Int32) (s : HS) {t : HS} (k3 : Int32 → HS → Option HS) (hk3 : ∀ (a3 : Int32) (s : HS), k3 a3 s = some t → Ev DDX8_append miX8_append NF none NF (hp t) 3 NF [(0, .ref 36), (1, .long v1), (3, .int a3)] [] (hp s)) (hf : f_X8_append_l3b v1 v3 k3 s = some t) : Ev DDX8_append miX8_append NF none NF (hp t) 3 NF [(0, .ref 36), (1, .long v1), (3, .int v3)] [] (hp s) := by
  refine e_iload_n dX8_append_3 2 rfl rfl (pc2 := 4) rfl ?_
  refine e_if_lt (tgt := 78) dX8_append_4 (by decide) (pc2 := 7) rfl (fun c1 => ?_) (fun c1 => ?_)
  · have hf := if_t c1 hf
    cases hf
    exact e_vret rfl dX8_append_78
  · have hf := if_f c1 hf
    refine e_lload_n dX8_append_7 1 rfl rfl (pc2 := 8) rfl ?_
    refine e_iload_n dX8_append_8 2 rfl rfl (pc2 := 9) rfl ?_
    refine e_lushr dX8_append_9 (pc2 := 10) rfl ?_
    refine e_ldc2 dX8_append_10 lk_X8_15 (pc2 := 13) rfl ?_
    refine e_land dX8_append_13 (pc2 := 14) rfl ?_
    refine e_l2i dX8_append_14 (pc2 := 15) rfl ?_
    obtain ⟨x2, ex2, hf⟩ := ltb_s hf
    refine e_istore dX8_append_15 (by decide) ex2.symm (ls' := [(0, .ref 36), (1, .long v1), (3, .int v3), (4, .int x2)]) [1, 2, 3, 0] rfl (pc2 := 17) rfl ?_
    refine e_iload dX8_append_17 3 rfl (pc2 := 19) rfl ?_
    refine e_bipush (x := 10) dX8_append_19 (by decide) (pc2 := 21) rfl ?_
    refine e_icmp_eq (tgt := 38) dX8_append_21 (by decide) (pc2 := 24) rfl (fun c3 => ?_) (fun c3 => ?_)
    · have hf := if_t c3 hf
      exact t_X8_append_j38 v1 v3 x2 s _ hk3 hf
    · have hf := if_f c3 hf
      refine e_iload dX8_append_24 3 rfl (pc2 := 26) rfl ?_
      refine e_bipush (x := 32) dX8_append_26 (by decide) (pc2 := 28) rfl ?_
      refine e_icmp_lt (tgt := 72) dX8_append_28 (by decide) (pc2 := 31) rfl (fun c10 => ?_) (fun c10 => ?_)
      · have hf := if_t c10 hf
        obtain ⟨x11, ex11, hf⟩ := ltb_s hf
        refine e_iinc dX8_append_72 2 rfl (c9 := (-8)) (by decide) ex11.symm (by decide) (ls' := [(0, .ref 36), (1, .long v1), (3, .int x11)]) [1, 2, 0] rfl (pc2 := 75) rfl ?_
        refine e_goto (tgt := 3) dX8_append_75 (by decide) ?_
        exact hk3 x11 s hf
      · have hf := if_f c10 hf
        refine e_iload dX8_append_31 3 rfl (pc2 := 33) rfl ?_
        refine e_bipush (x := 126) dX8_append_33 (by decide) (pc2 := 35) rfl ?_
        refine e_icmp_gt (tgt := 72) dX8_append_35 (by decide) (pc2 := 38) rfl (fun c12 => ?_) (fun c12 => ?_)
        · have hf := if_t c12 hf
          obtain ⟨x13, ex13, hf⟩ := ltb_s hf
          refine e_iinc dX8_append_72 2 rfl (c9 := (-8)) (by decide) ex13.symm (by decide) (ls' := [(0, .ref 36), (1, .long v1), (3, .int x13)]) [1, 2, 0] rfl (pc2 := 75) rfl ?_
          refine e_goto (tgt := 3) dX8_append_75 (by decide) ?_
          exact hk3 x13 s hf
        · have hf := if_f c12 hf
          exact t_X8_append_j38 v1 v3 x2 s _ hk3 hf
def f_X8_append_l3 (v1 : Int64) : Nat → Int32 → HS → Option HS
  | 0, _, _ => none
  | n + 1, v3, s => f_X8_append_l3b v1 v3 (f_X8_append_l3 v1 n)  s
set_option maxRecDepth 20000 in
set_option maxHeartbeats 2000000 in
theorem t_X8_append_l3 (v1 : Int64) {t : HS}  : ∀ (n : Nat) (v3 : Int32) (s : HS), f_X8_append_l3 v1 n v3 s = some t → Ev DDX8_append miX8_append NF none NF (hp t) 3 NF [(0, .ref 36), (1, .long v1), (3, .int v3)] [] (hp s) := by
  intro n
  induction n with
  | zero =>
    intro v3 s hf
    have hf : none = some t := hf
    cases hf
  | succ n ih =>
    intro v3 s hf
    exact t_X8_append_l3b v1 v3  s _ ih  hf
def f_X8_append (v1 : Int64) (s : HS) : Option HS :=
  f_X8_append_l3 v1 FU 56 s
set_option maxRecDepth 20000 in
set_option maxHeartbeats 2000000 in
theorem t_X8_append (v1 : Int64) (s : HS) {t : HS} (hf : f_X8_append  v1 s = some t) : Mt DDX8_append miX8_append [.ref 36, .long v1] NF (hp s) none NF (hp t) := by
  refine Mt.of (by decide +kernel) (Nat.le_refl _) (Nat.le_of_ble_eq_true rfl) ?_
  show Ev DDX8_append miX8_append NF none NF (hp t) 0 NF [(0, .ref 36), (1, .long v1)] [] (hp s)
  unfold f_X8_append at hf
  refine e_bipush (x := 56) dX8_append_0 (by decide) (pc2 := 2) rfl ?_
  refine e_istore_n dX8_append_2 rfl (by decide) rfl (ls' := [(0, .ref 36), (1, .long v1), (3, .int 56)]) [1, 2, 0] rfl (pc2 := 3) rfl ?_
  refine t_X8_append_l3 v1 FU 56 s hf
abbrev DDX11_feed : Nat := 2
def f_X11_feed (v1 : Int64) (v3 : Int64) (v5 : Int64) (s : HS) : Option (Int32 × HS) :=
  bnd (f_X8_append v1 s) fun s2 => bnd (f_X8_append v3 s2) fun s4 => bnd (f_X8_append v5 s4) fun s6 => some (s6.1 36 1, s6)
set_option maxRecDepth 20000 in
set_option maxHeartbeats 2000000 in
theorem t_X11_feed (v1 : Int64) (v3 : Int64) (v5 : Int64) (s : HS) {x : Int32} {t : HS} (hf : f_X11_feed  v1 v3 v5 s = some (x, t)) : Mt DDX11_feed miX11_feed [.ref 1, .long v1, .long v3, .long v5] NF (hp s) (some (.int x)) NF (hp t) := by
  refine Mt.of (by decide +kernel) (Nat.le_refl _) (Nat.le_of_ble_eq_true rfl) ?_
  show Ev DDX11_feed miX11_feed NF (some (.int x)) NF (hp t) 0 NF [(0, .ref 1), (1, .long v1), (3, .long v3), (5, .long v5)] [] (hp s)
  unfold f_X11_feed at hf
  refine e_aload_n dX11_feed_0 0 rfl rfl (pc2 := 1) rfl ?_
  refine e_getR (r := 36) fl_X11_41 dX11_feed_1 so_1 (rs_1_0 s.2.2) (by decide) (pc2 := 4) rfl ?_
  refine e_lload_n dX11_feed_4 1 rfl rfl (pc2 := 5) rfl ?_
  obtain ⟨s2, hy1, hf⟩ := bnd_s hf
  refine e_callVn (t_X8_append v1 s hy1) dX11_feed_5 cv_X11_76 rfl so_36 rc_8 (by decide) (by first | exact Nat.le_of_ble_eq_true rfl | simp [rva_cat, vc_i, vc_r, vc_l, vc_n]) nn0 rfl (pc2 := 8) rfl ?_
  refine e_aload_n dX11_feed_8 0 rfl rfl (pc2 := 9) rfl ?_
  refine e_getR (r := 36) fl_X11_41 dX11_feed_9 so_1 (rs_1_0 s2.2.2) (by decide) (pc2 := 12) rfl ?_
  refine e_lload_n dX11_feed_12 2 rfl rfl (pc2 := 13) rfl ?_
  obtain ⟨s4, hy3, hf⟩ := bnd_s hf
  refine e_callVn (t_X8_append v3 s2 hy3) dX11_feed_13 cv_X11_76 rfl so_36 rc_8 (by decide) (by first | exact Nat.le_of_ble_eq_true rfl | simp [rva_cat, vc_i, vc_r, vc_l, vc_n]) nn0 rfl (pc2 := 16) rfl ?_
  refine e_aload_n dX11_feed_16 0 rfl rfl (pc2 := 17) rfl ?_
  refine e_getR (r := 36) fl_X11_41 dX11_feed_17 so_1 (rs_1_0 s4.2.2) (by decide) (pc2 := 20) rfl ?_
  refine e_lload dX11_feed_20 3 rfl (pc2 := 22) rfl ?_
  obtain ⟨s6, hy5, hf⟩ := bnd_s hf
  refine e_callVn (t_X8_append v5 s4 hy5) dX11_feed_22 cv_X11_76 rfl so_36 rc_8 (by decide) (by first | exact Nat.le_of_ble_eq_true rfl | simp [rva_cat, vc_i, vc_r, vc_l, vc_n]) nn0 rfl (pc2 := 25) rfl ?_
  refine e_aload_n dX11_feed_25 0 rfl rfl (pc2 := 26) rfl ?_
  refine e_getR (r := 36) fl_X11_41 dX11_feed_26 so_1 (rs_1_0 s6.2.2) (by decide) (pc2 := 29) rfl ?_
  refine e_getI fl_X11_80 dX11_feed_29 so_36 (by decide) (pc2 := 32) rfl ?_
  cases hf
  exact e_iret rfl dX11_feed_32
abbrev DDX11_junction : Nat := 57
def f_X11_junction_l59b (v1 : Int32) (v3 : Int32) (k59 : Int32 → HS → Option (Int32 × HS)) (s : HS) : Option (Int32 × HS) :=
  (if 4 ≤ v3 then some (v1, s) else gd (inb v3 4) (ltb (sI s (Rf 33 v3.toNatClampNeg) 11 0) fun s18 => ltb (v3 + 1) fun x19 => k59 x19 s18))
set_option maxRecDepth 20000 in
set_option maxHeartbeats 2000000 in
theorem t_X11_junction_l59b (v1 : Int32) (v3 : Int32) (s : HS) {x : Int32} {t : HS} (k59 : Int32 → HS → Option (Int32 × HS)) (hk59 : ∀ (a3 : Int32) (s : HS), k59 a3 s = some (x, t) → Ev DDX11_junction miX11_junction NF (some (.int x)) NF (hp t) 59 NF [(0, .ref 1), (1, .int v1), (3, .int a3)] [] (hp s)) (hf : f_X11_junction_l59b v1 v3 k59 s = some (x, t)) : Ev DDX11_junction miX11_junction NF (some (.int x)) NF (hp t) 59 NF [(0, .ref 1), (1, .int v1), (3, .int v3)] [] (hp s) := by
  refine e_iload_n dX11_junction_59 2 rfl rfl (pc2 := 60) rfl ?_
  refine e_aload_n dX11_junction_60 0 rfl rfl (pc2 := 61) rfl ?_
  refine e_getR (r := 33) fl_X11_23 dX11_junction_61 so_1 (rs_1_7 s.2.2) (by decide) (pc2 := 64) rfl ?_
  refine e_alen (x := 4) dX11_junction_64 sa_33 (by decide) (by decide) (pc2 := 65) rfl ?_
  refine e_icmp_ge (tgt := 84) dX11_junction_65 (by decide) (pc2 := 68) rfl (fun c16 => ?_) (fun c16 => ?_)
  · have hf := if_t c16 hf
    refine e_iload_n dX11_junction_84 1 rfl rfl (pc2 := 85) rfl ?_
    cases hf
    exact e_iret rfl dX11_junction_85
  · have hf := if_f c16 hf
    refine e_aload_n dX11_junction_68 0 rfl rfl (pc2 := 69) rfl ?_
    refine e_getR (r := 33) fl_X11_23 dX11_junction_69 so_1 (rs_1_7 s.2.2) (by decide) (pc2 := 72) rfl ?_
    refine e_iload_n dX11_junction_72 2 rfl rfl (pc2 := 73) rfl ?_
    obtain ⟨g17, hf⟩ := gd_some hf
    refine e_aald (r := Rf 33 v3.toNatClampNeg) dX11_junction_73 sa_33 (by decide) (inb_v g17) (Rs_na (q := s.2.2) sa_33 (by decide)) (okX7_ne (mk_el (inb_v g17))) (pc2 := 74) rfl ?_
    refine e_iconst (x := 0) dX11_junction_74 (by decide) (pc2 := 75) rfl ?_
    obtain ⟨s18, es18, hf⟩ := ltb_s hf
    refine e_putZ fl_X11_94 dX11_junction_75 (okX7_o (mk_el (inb_v g17))) fn_7_11 (by decide) (by decide) (h2 := hp s18) (by rw [es18]; rfl) (pc2 := 78) rfl ?_
    obtain ⟨x19, ex19, hf⟩ := ltb_s hf
    refine e_iinc dX11_junction_78 2 rfl (c9 := 1) (by decide) ex19.symm (by decide) (ls' := [(0, .ref 1), (1, .int v1), (3, .int x19)]) [1, 2, 0] rfl (pc2 := 81) rfl ?_
    refine e_goto (tgt := 59) dX11_junction_81 (by decide) ?_
    exact hk59 x19 s18 hf
def f_X11_junction_l59 (v1 : Int32) : Nat → Int32 → HS → Option (Int32 × HS)
  | 0, _, _ => none
  | n + 1, v3, s => f_X11_junction_l59b v1 v3 (f_X11_junction_l59 v1 n)  s
set_option maxRecDepth 20000 in
set_option maxHeartbeats 2000000 in
theorem t_X11_junction_l59 (v1 : Int32) {x : Int32} {t : HS}  : ∀ (n : Nat) (v3 : Int32) (s : HS), f_X11_junction_l59 v1 n v3 s = some (x, t) → Ev DDX11_junction miX11_junction NF (some (.int x)) NF (hp t) 59 NF [(0, .ref 1), (1, .int v1), (3, .int v3)] [] (hp s) := by
  intro n
  induction n with
  | zero =>
    intro v3 s hf
    have hf : none = some (x, t) := hf
    cases hf
  | succ n ih =>
    intro v3 s hf
    exact t_X11_junction_l59b v1 v3  s _ ih  hf
def f_X11_junction  (s : HS) : Option (Int32 × HS) :=
  gd (okX4 (s.2.2.2.1)) (bnd2 (f_X5_read (s.2.2.2.1) s) fun y2 s3 => (if y2 = 0 then gd (okX4 (s3.2.2.1)) (ltb (s3.2.2.1) fun o6 => gd (okX4 (s3.2.2.2.1)) (ltb (sQ1 s3 (s3.2.2.2.1)) fun s8 => ltb (sQ2 s8 o6) fun s9 => gd (okX4 (s9.2.2.1)) (bnd (f_X7_startWith 64 (s9.2.2.1) s9) fun s12 => bnd (f_X7_forget 64 s12) fun s14 => ltb (sI s14 1 10 0) fun s15 => f_X11_junction_l59 y2 FU 0 s15))) else some (y2, s3)))
set_option maxRecDepth 20000 in
set_option maxHeartbeats 2000000 in
theorem t_X11_junction  (s : HS) {x : Int32} {t : HS} (hf : f_X11_junction  s = some (x, t)) : Mt DDX11_junction miX11_junction [.ref 1] NF (hp s) (some (.int x)) NF (hp t) := by
  refine Mt.of (by decide +kernel) (Nat.le_refl _) (Nat.le_of_ble_eq_true rfl) ?_
  show Ev DDX11_junction miX11_junction NF (some (.int x)) NF (hp t) 0 NF [(0, .ref 1)] [] (hp s)
  unfold f_X11_junction at hf
  refine e_aload_n dX11_junction_0 0 rfl rfl (pc2 := 1) rfl ?_
  refine e_getR (r := 69) fl_X11_50 dX11_junction_1 so_1 (rs_1_1 s.2.2) (by decide) (pc2 := 4) rfl ?_
  refine e_aload_n dX11_junction_4 0 rfl rfl (pc2 := 5) rfl ?_
  obtain ⟨g1, hf⟩ := gd_some hf
  refine e_getR (r := s.2.2.2.1) fl_X11_10 dX11_junction_5 so_1 rfl (okX4_ne g1) (pc2 := 8) rfl ?_
  obtain ⟨y2, s3, hy2, hf⟩ := bnd2_s hf
  refine e_callVs (t_X5_read (s.2.2.2.1) g1 s hy2) dX11_junction_8 cv_X11_84 rfl so_69 rc_5 (by decide) (by first | exact Nat.le_of_ble_eq_true rfl | simp [rva_cat, vc_i, vc_r, vc_l, vc_n]) nn0 rfl (pc2 := 11) rfl ?_
  refine e_istore_n dX11_junction_11 rfl (by decide) rfl (ls' := [(0, .ref 1), (1, .int y2)]) [1, 0] rfl (pc2 := 12) rfl ?_
  refine e_iload_n dX11_junction_12 1 rfl rfl (pc2 := 13) rfl ?_
  refine e_if_ne (tgt := 84) dX11_junction_13 (by decide) (pc2 := 16) rfl (fun c4 => ?_) (fun c4 => ?_)
  · have hf := if_f c4 hf
    refine e_iload_n dX11_junction_84 1 rfl rfl (pc2 := 85) rfl ?_
    cases hf
    exact e_iret rfl dX11_junction_85
  · have hf := if_t c4 hf
    refine e_aload_n dX11_junction_16 0 rfl rfl (pc2 := 17) rfl ?_
    obtain ⟨g5, hf⟩ := gd_some hf
    refine e_getR (r := s3.2.2.1) fl_X11_61 dX11_junction_17 so_1 rfl (okX4_ne g5) (pc2 := 20) rfl ?_
    obtain ⟨o6, eo6, hf⟩ := ltb_s hf
    have ho6 : okX4 o6 = true := by rw [eo6]; exact g5
    refine e_astore_n dX11_junction_20 rfl (by decide) eo6.symm (ls' := [(0, .ref 1), (1, .int y2), (2, .ref o6)]) [1, 2, 0] rfl (pc2 := 21) rfl ?_
    refine e_aload_n dX11_junction_21 0 rfl rfl (pc2 := 22) rfl ?_
    refine e_aload_n dX11_junction_22 0 rfl rfl (pc2 := 23) rfl ?_
    obtain ⟨g7, hf⟩ := gd_some hf
    refine e_getR (r := s3.2.2.2.1) fl_X11_10 dX11_junction_23 so_1 rfl (okX4_ne g7) (pc2 := 26) rfl ?_
    obtain ⟨s8, es8, hf⟩ := ltb_s hf
    refine e_putR fl_X11_61 dX11_junction_26 so_1 fn_10_3 fr_10_3 (okX4_ne g7) (h2 := hp s8) (by rw [es8]; exact hp_q1) (pc2 := 29) rfl ?_
    refine e_aload_n dX11_junction_29 0 rfl rfl (pc2 := 30) rfl ?_
    refine e_aload_n dX11_junction_30 2 rfl rfl (pc2 := 31) rfl ?_
    obtain ⟨s9, es9, hf⟩ := ltb_s hf
    refine e_putR fl_X11_10 dX11_junction_31 so_1 fn_10_4 fr_10_4 (okX4_ne ho6) (h2 := hp s9) (by rw [es9]; exact hp_q2) (pc2 := 34) rfl ?_
    refine e_aload_n dX11_junction_34 0 rfl rfl (pc2 := 35) rfl ?_
    refine e_getR (r := 64) fl_X11_64 dX11_junction_35 so_1 (rs_1_5 s9.2.2) (by decide) (pc2 := 38) rfl ?_
    refine e_aload_n dX11_junction_38 0 rfl rfl (pc2 := 39) rfl ?_
    obtain ⟨g10, hf⟩ := gd_some hf
    refine e_getR (r := s9.2.2.1) fl_X11_61 dX11_junction_39 so_1 rfl (okX4_ne g10) (pc2 := 42) rfl ?_
    obtain ⟨s12, hy11, hf⟩ := bnd_s hf
    refine e_callVn (t_X7_startWith 64 (show okX7 64 = true from rfl) (s9.2.2.1) g10 s9 hy11) dX11_junction_42 cv_X11_37 rfl (okX7_o (show okX7 64 = true from rfl)) rc_7 (by decide) (by first | exact Nat.le_of_ble_eq_true rfl | simp [rva_cat, vc_i, vc_r, vc_l, vc_n]) nn0 rfl (pc2 := 45) rfl ?_
    refine e_aload_n dX11_junction_45 0 rfl rfl (pc2 := 46) rfl ?_
    refine e_getR (r := 64) fl_X11_64 dX11_junction_46 so_1 (rs_1_5 s12.2.2) (by decide) (pc2 := 49) rfl ?_
    obtain ⟨s14, hy13, hf⟩ := bnd_s hf
    refine e_callVn (t_X7_forget 64 (show okX7 64 = true from rfl) s12 hy13) dX11_junction_49 cv_X11_88 rfl (okX7_o (show okX7 64 = true from rfl)) rc_7 (by decide) (by first | exact Nat.le_of_ble_eq_true rfl | simp [rva_cat, vc_i, vc_r, vc_l, vc_n]) nn0 rfl (pc2 := 52) rfl ?_
    refine e_aload_n dX11_junction_52 0 rfl rfl (pc2 := 53) rfl ?_
    refine e_iconst (x := 0) dX11_junction_53 (by decide) (pc2 := 54) rfl ?_
    obtain ⟨s15, es15, hf⟩ := ltb_s hf
    refine e_putI fl_X11_91 dX11_junction_54 so_1 fn_10_10 (h2 := hp s15) (by rw [es15]; rfl) (pc2 := 57) rfl ?_
    refine e_iconst (x := 0) dX11_junction_57 (by decide) (pc2 := 58) rfl ?_
    refine e_istore_n dX11_junction_58 rfl (by decide) rfl (ls' := [(0, .ref 1), (1, .int y2), (3, .int 0)]) [1, 2, 0] rfl (pc2 := 59) rfl ?_
    refine t_X11_junction_l59 y2 FU 0 s15 hf
abbrev DDX11_days : Nat := 9
def f_X11_days  (s : HS) : Option (Int32 × HS) :=
  gd (okX4 (s.2.2.1)) (bnd2 (f_X1_read (s.2.2.1) s) fun y2 s3 => (if y2 = 0 then bnd (f_X7_takeLines 64 72 (s3.1 71 2) s3) fun s6 => some (y2, s6) else some (y2, s3)))
set_option maxRecDepth 20000 in
set_option maxHeartbeats 2000000 in
theorem t_X11_days  (s : HS) {x : Int32} {t : HS} (hf : f_X11_days  s = some (x, t)) : Mt DDX11_days miX11_days [.ref 1] NF (hp s) (some (.int x)) NF (hp t) := by
  refine Mt.of (by decide +kernel) (Nat.le_refl _) (Nat.le_of_ble_eq_true rfl) ?_
  show Ev DDX11_days miX11_days NF (some (.int x)) NF (hp t) 0 NF [(0, .ref 1)] [] (hp s)
  unfold f_X11_days at hf
  refine e_aload_n dX11_days_0 0 rfl rfl (pc2 := 1) rfl ?_
  refine e_getR (r := 71) fl_X11_57 dX11_days_1 so_1 (rs_1_2 s.2.2) (by decide) (pc2 := 4) rfl ?_
  refine e_aload_n dX11_days_4 0 rfl rfl (pc2 := 5) rfl ?_
  obtain ⟨g1, hf⟩ := gd_some hf
  refine e_getR (r := s.2.2.1) fl_X11_61 dX11_days_5 so_1 rfl (okX4_ne g1) (pc2 := 8) rfl ?_
  obtain ⟨y2, s3, hy2, hf⟩ := bnd2_s hf
  refine e_callVs (t_X1_read (s.2.2.1) g1 s hy2) dX11_days_8 cv_X11_98 rfl so_71 rc_1 (by decide) (by first | exact Nat.le_of_ble_eq_true rfl | simp [rva_cat, vc_i, vc_r, vc_l, vc_n]) nn0 rfl (pc2 := 11) rfl ?_
  refine e_istore_n dX11_days_11 rfl (by decide) rfl (ls' := [(0, .ref 1), (1, .int y2)]) [1, 0] rfl (pc2 := 12) rfl ?_
  refine e_iload_n dX11_days_12 1 rfl rfl (pc2 := 13) rfl ?_
  refine e_if_ne (tgt := 37) dX11_days_13 (by decide) (pc2 := 16) rfl (fun c4 => ?_) (fun c4 => ?_)
  · have hf := if_f c4 hf
    refine e_iload_n dX11_days_37 1 rfl rfl (pc2 := 38) rfl ?_
    cases hf
    exact e_iret rfl dX11_days_38
  · have hf := if_t c4 hf
    refine e_aload_n dX11_days_16 0 rfl rfl (pc2 := 17) rfl ?_
    refine e_getR (r := 64) fl_X11_64 dX11_days_17 so_1 (rs_1_5 s3.2.2) (by decide) (pc2 := 20) rfl ?_
    refine e_aload_n dX11_days_20 0 rfl rfl (pc2 := 21) rfl ?_
    refine e_getR (r := 71) fl_X11_57 dX11_days_21 so_1 (rs_1_2 s3.2.2) (by decide) (pc2 := 24) rfl ?_
    refine e_getR (r := 72) fl_X11_99 dX11_days_24 so_71 (rs_71_1 s3.2.2) (by decide) (pc2 := 27) rfl ?_
    refine e_aload_n dX11_days_27 0 rfl rfl (pc2 := 28) rfl ?_
    refine e_getR (r := 71) fl_X11_57 dX11_days_28 so_1 (rs_1_2 s3.2.2) (by decide) (pc2 := 31) rfl ?_
    refine e_getI fl_X11_102 dX11_days_31 so_71 (by decide) (pc2 := 34) rfl ?_
    obtain ⟨s6, hy5, hf⟩ := bnd_s hf
    refine e_callVn (t_X7_takeLines 64 (show okX7 64 = true from rfl) 72 (by decide) (s3.1 71 2) s3 hy5) dX11_days_34 cv_X11_105 rfl (okX7_o (show okX7 64 = true from rfl)) rc_7 (by decide) (by first | exact Nat.le_of_ble_eq_true rfl | simp [rva_cat, vc_i, vc_r, vc_l, vc_n]) nn0 rfl (pc2 := 37) rfl ?_
    refine e_iload_n dX11_days_37 1 rfl rfl (pc2 := 38) rfl ?_
    cases hf
    exact e_iret rfl dX11_days_38
abbrev DDX11_isThing : Nat := 1
def f_X11_isThing (v1 : Int32) (s : HS) : Option Int32 :=
  (if v1 < 0 then some 0 else gd (okX4 (s.2.2.1)) ((if (s.1 (s.2.2.1) 12) ≤ v1 then some 0 else some 1)))
set_option maxRecDepth 20000 in
set_option maxHeartbeats 2000000 in
theorem t_X11_isThing (v1 : Int32) (s : HS) {x : Int32} (hf : f_X11_isThing  v1 s = some x) : Mt DDX11_isThing miX11_isThing [.ref 1, .int v1] NF (hp s) (some (.int x)) NF (hp s) := by
  refine Mt.of (by decide +kernel) (Nat.le_refl _) (Nat.le_of_ble_eq_true rfl) ?_
  show Ev DDX11_isThing miX11_isThing NF (some (.int x)) NF (hp s) 0 NF [(0, .ref 1), (1, .int v1)] [] (hp s)
  unfold f_X11_isThing at hf
  refine e_iload_n dX11_isThing_0 1 rfl rfl (pc2 := 1) rfl ?_
  refine e_if_lt (tgt := 19) dX11_isThing_1 (by decide) (pc2 := 4) rfl (fun c1 => ?_) (fun c1 => ?_)
  · have hf := if_t c1 hf
    refine e_iconst (x := 0) dX11_isThing_19 (by decide) (pc2 := 20) rfl ?_
    cases hf
    exact e_zret (by decide) rfl dX11_isThing_20
  · have hf := if_f c1 hf
    refine e_iload_n dX11_isThing_4 1 rfl rfl (pc2 := 5) rfl ?_
    refine e_aload_n dX11_isThing_5 0 rfl rfl (pc2 := 6) rfl ?_
    obtain ⟨g2, hf⟩ := gd_some hf
    refine e_getR (r := s.2.2.1) fl_X11_61 dX11_isThing_6 so_1 rfl (okX4_ne g2) (pc2 := 9) rfl ?_
    refine e_getI fl_X11_313 dX11_isThing_9 (okX4_o g2) (by decide) (pc2 := 12) rfl ?_
    refine e_icmp_ge (tgt := 19) dX11_isThing_12 (by decide) (pc2 := 15) rfl (fun c3 => ?_) (fun c3 => ?_)
    · have hf := if_t c3 hf
      refine e_iconst (x := 0) dX11_isThing_19 (by decide) (pc2 := 20) rfl ?_
      cases hf
      exact e_zret (by decide) rfl dX11_isThing_20
    · have hf := if_f c3 hf
      refine e_iconst (x := 1) dX11_isThing_15 (by decide) (pc2 := 16) rfl ?_
      refine e_goto (tgt := 20) dX11_isThing_16 (by decide) ?_
      cases hf
      exact e_zret (by decide) rfl dX11_isThing_20
abbrev DDX11_thing : Nat := 2
def f_X11_thing (v1 : Int32) (v2 : Int32) (s : HS) : Option Int32 :=
  bnd (f_X11_isThing v1 s) fun y1 => (if y1 = 0 then some (-1) else gd (okX4 (s.2.2.1)) (gd (inb v1 5) (ltb (Rf (Rf (s.2.2.1) 13) v1.toNatClampNeg) fun o5 => (if v2 = 0 then some (s.1 o5 1) else if v2 = 1 then some (s.1 o5 2) else if v2 = 2 then some (s.1 o5 3) else if v2 = 3 then gd (inb v1 5) (some (s.1 65 v1.toNatClampNeg)) else if v2 = 4 then some (s.1 o5 5) else some (-1)))))
set_option maxRecDepth 20000 in
set_option maxHeartbeats 2000000 in
theorem t_X11_thing (v1 : Int32) (v2 : Int32) (s : HS) {x : Int32} (hf : f_X11_thing  v1 v2 s = some x) : Mt DDX11_thing miX11_thing [.ref 1, .int v1, .int v2] NF (hp s) (some (.int x)) NF (hp s) := by
  refine Mt.of (by decide +kernel) (Nat.le_refl _) (Nat.le_of_ble_eq_true rfl) ?_
  show Ev DDX11_thing miX11_thing NF (some (.int x)) NF (hp s) 0 NF [(0, .ref 1), (1, .int v1), (2, .int v2)] [] (hp s)
  unfold f_X11_thing at hf
  refine e_aload_n dX11_thing_0 0 rfl rfl (pc2 := 1) rfl ?_
  refine e_iload_n dX11_thing_1 1 rfl rfl (pc2 := 2) rfl ?_
  obtain ⟨y1, hy1, hf⟩ := bnd_s hf
  refine e_callVs (t_X11_isThing v1 s hy1) dX11_thing_2 cv_X11_109 rfl so_1 rc_10 (by decide) (by first | exact Nat.le_of_ble_eq_true rfl | simp [rva_cat, vc_i, vc_r, vc_l, vc_n]) nn0 rfl (pc2 := 5) rfl ?_
  refine e_if_ne (tgt := 10) dX11_thing_5 (by decide) (pc2 := 8) rfl (fun c2 => ?_) (fun c2 => ?_)
  · have hf := if_f c2 hf
    refine e_aload_n dX11_thing_10 0 rfl rfl (pc2 := 11) rfl ?_
    obtain ⟨g3, hf⟩ := gd_some hf
    refine e_getR (r := s.2.2.1) fl_X11_61 dX11_thing_11 so_1 rfl (okX4_ne g3) (pc2 := 14) rfl ?_
    refine e_getR (r := Rf (s.2.2.1) 13) fl_X11_113 dX11_thing_14 (okX4_o g3) (okX4_R g3) (isA_ne (okX4_thing g3)) (pc2 := 17) rfl ?_
    refine e_iload_n dX11_thing_17 1 rfl rfl (pc2 := 18) rfl ?_
    obtain ⟨g4, hf⟩ := gd_some hf
    refine e_aald (r := Rf (Rf (s.2.2.1) 13) v1.toNatClampNeg) dX11_thing_18 (okX4_thing g3) (by decide) (inb_v g4) (Rs_na (q := s.2.2) (okX4_thing g3) (by decide)) (okX9_ne (okX4_thing_el g3 (inb_v g4))) (pc2 := 19) rfl ?_
    obtain ⟨o5, eo5, hf⟩ := ltb_s hf
    have ho5 : okX9 o5 = true := by rw [eo5]; exact (okX4_thing_el g3 (inb_v g4))
    refine e_astore_n dX11_thing_19 rfl (by decide) eo5.symm (ls' := [(0, .ref 1), (1, .int v1), (2, .int v2), (3, .ref o5)]) [1, 2, 3, 0] rfl (pc2 := 20) rfl ?_
    refine e_iload_n dX11_thing_20 2 rfl rfl (pc2 := 21) rfl ?_
    by_cases c6 : v2 = 0
    · have hf := if_t c6 hf
      rw [c6]
      refine e_tableIn (tgt := 56) dX11_thing_21 (by decide) (by decide) rfl (by decide) ?_
      refine e_aload_n dX11_thing_56 3 rfl rfl (pc2 := 57) rfl ?_
      refine e_getI fl_X11_117 dX11_thing_57 (okX9_o ho5) (by decide) (pc2 := 60) rfl ?_
      cases hf
      exact e_iret rfl dX11_thing_60
    have hf := if_f c6 hf
    by_cases c7 : v2 = 1
    · have hf := if_t c7 hf
      rw [c7]
      refine e_tableIn (tgt := 61) dX11_thing_21 (by decide) (by decide) rfl (by decide) ?_
      refine e_aload_n dX11_thing_61 3 rfl rfl (pc2 := 62) rfl ?_
      refine e_getI fl_X11_122 dX11_thing_62 (okX9_o ho5) (by decide) (pc2 := 65) rfl ?_
      cases hf
      exact e_iret rfl dX11_thing_65
    have hf := if_f c7 hf
    by_cases c8 : v2 = 2
    · have hf := if_t c8 hf
      rw [c8]
      refine e_tableIn (tgt := 66) dX11_thing_21 (by decide) (by decide) rfl (by decide) ?_
      refine e_aload_n dX11_thing_66 3 rfl rfl (pc2 := 67) rfl ?_
      refine e_getI fl_X11_125 dX11_thing_67 (okX9_o ho5) (by decide) (pc2 := 70) rfl ?_
      cases hf
      exact e_iret rfl dX11_thing_70
    have hf := if_f c8 hf
    by_cases c9 : v2 = 3
    · have hf := if_t c9 hf
      rw [c9]
      refine e_tableIn (tgt := 71) dX11_thing_21 (by decide) (by decide) rfl (by decide) ?_
      refine e_aload_n dX11_thing_71 0 rfl rfl (pc2 := 72) rfl ?_
      refine e_getR (r := 64) fl_X11_64 dX11_thing_72 so_1 (rs_1_5 s.2.2) (by decide) (pc2 := 75) rfl ?_
      refine e_getR (r := 65) fl_X11_128 dX11_thing_75 (okX7_o (show okX7 64 = true from rfl)) (rs_64_4 s.2.2) (by decide) (pc2 := 78) rfl ?_
      refine e_iload_n dX11_thing_78 1 rfl rfl (pc2 := 79) rfl ?_
      obtain ⟨g10, hf⟩ := gd_some hf
      refine e_iald dX11_thing_79 sa_65 (inb_v g10) (pc2 := 80) rfl ?_
      cases hf
      exact e_iret rfl dX11_thing_80
    have hf := if_f c9 hf
    by_cases c11 : v2 = 4
    · have hf := if_t c11 hf
      rw [c11]
      refine e_tableIn (tgt := 81) dX11_thing_21 (by decide) (by decide) rfl (by decide) ?_
      refine e_aload_n dX11_thing_81 3 rfl rfl (pc2 := 82) rfl ?_
      refine e_getI fl_X11_131 dX11_thing_82 (okX9_o ho5) (by decide) (pc2 := 85) rfl ?_
      cases hf
      exact e_iret rfl dX11_thing_85
    have hf := if_f c11 hf
    refine e_tableOut (tgt := 86) dX11_thing_21 ?_ (by decide) ?_
    · have q0 := lv_neT (a := 0) c6 (by decide)
      have q1 := lv_neT (a := 1) c7 (by decide)
      have q2 := lv_neT (a := 2) c8 (by decide)
      have q3 := lv_neT (a := 3) c9 (by decide)
      have q4 := lv_neT (a := 4) c11 (by decide)
      omega
    refine e_iconst (x := (-1)) dX11_thing_86 (by decide) (pc2 := 87) rfl ?_
    cases hf
    exact e_iret rfl dX11_thing_87
  · have hf := if_t c2 hf
    refine e_iconst (x := (-1)) dX11_thing_8 (by decide) (pc2 := 9) rfl ?_
    cases hf
    exact e_iret rfl dX11_thing_9
abbrev DDX11_isBuyer : Nat := 1
def f_X11_isBuyer (v1 : Int32) (s : HS) : Option Int32 :=
  (if v1 < 0 then some 0 else gd (okX4 (s.2.2.1)) ((if (s.1 (s.2.2.1) 14) ≤ v1 then some 0 else some 1)))
set_option maxRecDepth 20000 in
set_option maxHeartbeats 2000000 in
theorem t_X11_isBuyer (v1 : Int32) (s : HS) {x : Int32} (hf : f_X11_isBuyer  v1 s = some x) : Mt DDX11_isBuyer miX11_isBuyer [.ref 1, .int v1] NF (hp s) (some (.int x)) NF (hp s) := by
  refine Mt.of (by decide +kernel) (Nat.le_refl _) (Nat.le_of_ble_eq_true rfl) ?_
  show Ev DDX11_isBuyer miX11_isBuyer NF (some (.int x)) NF (hp s) 0 NF [(0, .ref 1), (1, .int v1)] [] (hp s)
  unfold f_X11_isBuyer at hf
  refine e_iload_n dX11_isBuyer_0 1 rfl rfl (pc2 := 1) rfl ?_
  refine e_if_lt (tgt := 19) dX11_isBuyer_1 (by decide) (pc2 := 4) rfl (fun c1 => ?_) (fun c1 => ?_)
  · have hf := if_t c1 hf
    refine e_iconst (x := 0) dX11_isBuyer_19 (by decide) (pc2 := 20) rfl ?_
    cases hf
    exact e_zret (by decide) rfl dX11_isBuyer_20
  · have hf := if_f c1 hf
    refine e_iload_n dX11_isBuyer_4 1 rfl rfl (pc2 := 5) rfl ?_
    refine e_aload_n dX11_isBuyer_5 0 rfl rfl (pc2 := 6) rfl ?_
    obtain ⟨g2, hf⟩ := gd_some hf
    refine e_getR (r := s.2.2.1) fl_X11_61 dX11_isBuyer_6 so_1 rfl (okX4_ne g2) (pc2 := 9) rfl ?_
    refine e_getI fl_X11_229 dX11_isBuyer_9 (okX4_o g2) (by decide) (pc2 := 12) rfl ?_
    refine e_icmp_ge (tgt := 19) dX11_isBuyer_12 (by decide) (pc2 := 15) rfl (fun c3 => ?_) (fun c3 => ?_)
    · have hf := if_t c3 hf
      refine e_iconst (x := 0) dX11_isBuyer_19 (by decide) (pc2 := 20) rfl ?_
      cases hf
      exact e_zret (by decide) rfl dX11_isBuyer_20
    · have hf := if_f c3 hf
      refine e_iconst (x := 1) dX11_isBuyer_15 (by decide) (pc2 := 16) rfl ?_
      refine e_goto (tgt := 20) dX11_isBuyer_16 (by decide) ?_
      cases hf
      exact e_zret (by decide) rfl dX11_isBuyer_20
abbrev DDX11_buyer : Nat := 3
def f_X11_buyer (v1 : Int32) (v2 : Int32) (s : HS) : Option Int32 :=
  bnd (f_X11_isBuyer v1 s) fun y1 => (if y1 = 0 then some (-1) else gd (okX4 (s.2.2.1)) (gd (inb v1 6) (ltb (Rf (Rf (s.2.2.1) 15) v1.toNatClampNeg) fun o5 => (if v2 = 0 then some (s.1 o5 1) else if v2 = 1 then some (s.1 o5 2) else if v2 = 2 then some (s.1 o5 3) else if v2 = 3 then some (s.1 o5 4) else if v2 = 4 then some (s.1 o5 7) else if v2 = 5 then some (((s.1 64 0) >>> (v1 &&& 31)) &&& (1 : Int32)) else if v2 = 6 then gd (okX4 (s.2.2.1)) (bnd (f_X4_wayOf (s.2.2.1) v1 (s.1 64 2) s) fun y14 => some y14) else if v2 = 7 then gd (okX4 (s.2.2.1)) (gd (okX4 (s.2.2.1)) (bnd (f_X4_wayOf (s.2.2.1) v1 (s.1 64 2) s) fun y18 => some (f_X4_goesAt (s.2.2.1) y18 (s.1 64 1) s))) else some (-1)))))
set_option maxRecDepth 20000 in
set_option maxHeartbeats 2000000 in
theorem t_X11_buyer (v1 : Int32) (v2 : Int32) (s : HS) {x : Int32} (hf : f_X11_buyer  v1 v2 s = some x) : Mt DDX11_buyer miX11_buyer [.ref 1, .int v1, .int v2] NF (hp s) (some (.int x)) NF (hp s) := by
  refine Mt.of (by decide +kernel) (Nat.le_refl _) (Nat.le_of_ble_eq_true rfl) ?_
  show Ev DDX11_buyer miX11_buyer NF (some (.int x)) NF (hp s) 0 NF [(0, .ref 1), (1, .int v1), (2, .int v2)] [] (hp s)
  unfold f_X11_buyer at hf
  refine e_aload_n dX11_buyer_0 0 rfl rfl (pc2 := 1) rfl ?_
  refine e_iload_n dX11_buyer_1 1 rfl rfl (pc2 := 2) rfl ?_
  obtain ⟨y1, hy1, hf⟩ := bnd_s hf
  refine e_callVs (t_X11_isBuyer v1 s hy1) dX11_buyer_2 cv_X11_134 rfl so_1 rc_10 (by decide) (by first | exact Nat.le_of_ble_eq_true rfl | simp [rva_cat, vc_i, vc_r, vc_l, vc_n]) nn0 rfl (pc2 := 5) rfl ?_
  refine e_if_ne (tgt := 10) dX11_buyer_5 (by decide) (pc2 := 8) rfl (fun c2 => ?_) (fun c2 => ?_)
  · have hf := if_f c2 hf
    refine e_aload_n dX11_buyer_10 0 rfl rfl (pc2 := 11) rfl ?_
    obtain ⟨g3, hf⟩ := gd_some hf
    refine e_getR (r := s.2.2.1) fl_X11_61 dX11_buyer_11 so_1 rfl (okX4_ne g3) (pc2 := 14) rfl ?_
    refine e_getR (r := Rf (s.2.2.1) 15) fl_X11_137 dX11_buyer_14 (okX4_o g3) (okX4_R g3) (isA_ne (okX4_buyer g3)) (pc2 := 17) rfl ?_
    refine e_iload_n dX11_buyer_17 1 rfl rfl (pc2 := 18) rfl ?_
    obtain ⟨g4, hf⟩ := gd_some hf
    refine e_aald (r := Rf (Rf (s.2.2.1) 15) v1.toNatClampNeg) dX11_buyer_18 (okX4_buyer g3) (by decide) (inb_v g4) (Rs_na (q := s.2.2) (okX4_buyer g3) (by decide)) (okX0_ne (okX4_buyer_el g3 (inb_v g4))) (pc2 := 19) rfl ?_
    obtain ⟨o5, eo5, hf⟩ := ltb_s hf
    have ho5 : okX0 o5 = true := by rw [eo5]; exact (okX4_buyer_el g3 (inb_v g4))
    refine e_astore_n dX11_buyer_19 rfl (by decide) eo5.symm (ls' := [(0, .ref 1), (1, .int v1), (2, .int v2), (3, .ref o5)]) [1, 2, 3, 0] rfl (pc2 := 20) rfl ?_
    refine e_iload_n dX11_buyer_20 2 rfl rfl (pc2 := 21) rfl ?_
    by_cases c6 : v2 = 0
    · have hf := if_t c6 hf
      rw [c6]
      refine e_tableIn (tgt := 68) dX11_buyer_21 (by decide) (by decide) rfl (by decide) ?_
      refine e_aload_n dX11_buyer_68 3 rfl rfl (pc2 := 69) rfl ?_
      refine e_getI fl_X11_141 dX11_buyer_69 (okX0_o ho5) (by decide) (pc2 := 72) rfl ?_
      cases hf
      exact e_iret rfl dX11_buyer_72
    have hf := if_f c6 hf
    by_cases c7 : v2 = 1
    · have hf := if_t c7 hf
      rw [c7]
      refine e_tableIn (tgt := 73) dX11_buyer_21 (by decide) (by decide) rfl (by decide) ?_
      refine e_aload_n dX11_buyer_73 3 rfl rfl (pc2 := 74) rfl ?_
      refine e_getI fl_X11_146 dX11_buyer_74 (okX0_o ho5) (by decide) (pc2 := 77) rfl ?_
      cases hf
      exact e_iret rfl dX11_buyer_77
    have hf := if_f c7 hf
    by_cases c8 : v2 = 2
    · have hf := if_t c8 hf
      rw [c8]
      refine e_tableIn (tgt := 78) dX11_buyer_21 (by decide) (by decide) rfl (by decide) ?_
      refine e_aload_n dX11_buyer_78 3 rfl rfl (pc2 := 79) rfl ?_
      refine e_getI fl_X11_149 dX11_buyer_79 (okX0_o ho5) (by decide) (pc2 := 82) rfl ?_
      cases hf
      exact e_iret rfl dX11_buyer_82
    have hf := if_f c8 hf
    by_cases c9 : v2 = 3
    · have hf := if_t c9 hf
      rw [c9]
      refine e_tableIn (tgt := 83) dX11_buyer_21 (by decide) (by decide) rfl (by decide) ?_
      refine e_aload_n dX11_buyer_83 3 rfl rfl (pc2 := 84) rfl ?_
      refine e_getI fl_X11_152 dX11_buyer_84 (okX0_o ho5) (by decide) (pc2 := 87) rfl ?_
      cases hf
      exact e_iret rfl dX11_buyer_87
    have hf := if_f c9 hf
    by_cases c10 : v2 = 4
    · have hf := if_t c10 hf
      rw [c10]
      refine e_tableIn (tgt := 88) dX11_buyer_21 (by decide) (by decide) rfl (by decide) ?_
      refine e_aload_n dX11_buyer_88 3 rfl rfl (pc2 := 89) rfl ?_
      refine e_getI fl_X11_155 dX11_buyer_89 (okX0_o ho5) (by decide) (pc2 := 92) rfl ?_
      cases hf
      exact e_iret rfl dX11_buyer_92
    have hf := if_f c10 hf
    by_cases c11 : v2 = 5
    · have hf := if_t c11 hf
      rw [c11]
      refine e_tableIn (tgt := 93) dX11_buyer_21 (by decide) (by decide) rfl (by decide) ?_
      refine e_aload_n dX11_buyer_93 0 rfl rfl (pc2 := 94) rfl ?_
      refine e_getR (r := 64) fl_X11_64 dX11_buyer_94 so_1 (rs_1_5 s.2.2) (by decide) (pc2 := 97) rfl ?_
      refine e_getI fl_X11_158 dX11_buyer_97 (okX7_o (show okX7 64 = true from rfl)) (by decide) (pc2 := 100) rfl ?_
      refine e_iload_n dX11_buyer_100 1 rfl rfl (pc2 := 101) rfl ?_
      refine e_ishr dX11_buyer_101 (pc2 := 102) rfl ?_
      refine e_iconst (x := 1) dX11_buyer_102 (by decide) (pc2 := 103) rfl ?_
      refine e_iand dX11_buyer_103 (pc2 := 104) rfl ?_
      cases hf
      exact e_iret rfl dX11_buyer_104
    have hf := if_f c11 hf
    by_cases c12 : v2 = 6
    · have hf := if_t c12 hf
      rw [c12]
      refine e_tableIn (tgt := 105) dX11_buyer_21 (by decide) (by decide) rfl (by decide) ?_
      refine e_aload_n dX11_buyer_105 0 rfl rfl (pc2 := 106) rfl ?_
      obtain ⟨g13, hf⟩ := gd_some hf
      refine e_getR (r := s.2.2.1) fl_X11_61 dX11_buyer_106 so_1 rfl (okX4_ne g13) (pc2 := 109) rfl ?_
      refine e_iload_n dX11_buyer_109 1 rfl rfl (pc2 := 110) rfl ?_
      refine e_aload_n dX11_buyer_110 0 rfl rfl (pc2 := 111) rfl ?_
      refine e_getR (r := 64) fl_X11_64 dX11_buyer_111 so_1 (rs_1_5 s.2.2) (by decide) (pc2 := 114) rfl ?_
      refine e_getI fl_X11_161 dX11_buyer_114 (okX7_o (show okX7 64 = true from rfl)) (by decide) (pc2 := 117) rfl ?_
      obtain ⟨y14, hy14, hf⟩ := bnd_s hf
      refine e_callVs (t_X4_wayOf (s.2.2.1) g13 v1 (s.1 64 2) s hy14) dX11_buyer_117 cv_X11_164 rfl (okX4_o g13) rc_4 (by decide) (by first | exact Nat.le_of_ble_eq_true rfl | simp [rva_cat, vc_i, vc_r, vc_l, vc_n]) nn0 rfl (pc2 := 120) rfl ?_
      cases hf
      exact e_iret rfl dX11_buyer_120
    have hf := if_f c12 hf
    by_cases c15 : v2 = 7
    · have hf := if_t c15 hf
      rw [c15]
      refine e_tableIn (tgt := 121) dX11_buyer_21 (by decide) (by decide) rfl (by decide) ?_
      refine e_aload_n dX11_buyer_121 0 rfl rfl (pc2 := 122) rfl ?_
      obtain ⟨g16, hf⟩ := gd_some hf
      refine e_getR (r := s.2.2.1) fl_X11_61 dX11_buyer_122 so_1 rfl (okX4_ne g16) (pc2 := 125) rfl ?_
      refine e_aload_n dX11_buyer_125 0 rfl rfl (pc2 := 126) rfl ?_
      obtain ⟨g17, hf⟩ := gd_some hf
      refine e_getR (r := s.2.2.1) fl_X11_61 dX11_buyer_126 so_1 rfl (okX4_ne g17) (pc2 := 129) rfl ?_
      refine e_iload_n dX11_buyer_129 1 rfl rfl (pc2 := 130) rfl ?_
      refine e_aload_n dX11_buyer_130 0 rfl rfl (pc2 := 131) rfl ?_
      refine e_getR (r := 64) fl_X11_64 dX11_buyer_131 so_1 (rs_1_5 s.2.2) (by decide) (pc2 := 134) rfl ?_
      refine e_getI fl_X11_161 dX11_buyer_134 (okX7_o (show okX7 64 = true from rfl)) (by decide) (pc2 := 137) rfl ?_
      obtain ⟨y18, hy18, hf⟩ := bnd_s hf
      refine e_callVs (t_X4_wayOf (s.2.2.1) g17 v1 (s.1 64 2) s hy18) dX11_buyer_137 cv_X11_164 rfl (okX4_o g17) rc_4 (by decide) (by first | exact Nat.le_of_ble_eq_true rfl | simp [rva_cat, vc_i, vc_r, vc_l, vc_n]) nn0 rfl (pc2 := 140) rfl ?_
      refine e_aload_n dX11_buyer_140 0 rfl rfl (pc2 := 141) rfl ?_
      refine e_getR (r := 64) fl_X11_64 dX11_buyer_141 so_1 (rs_1_5 s.2.2) (by decide) (pc2 := 144) rfl ?_
      refine e_getI fl_X11_168 dX11_buyer_144 (okX7_o (show okX7 64 = true from rfl)) (by decide) (pc2 := 147) rfl ?_
      refine e_callVs (t_X4_goesAt (s.2.2.1) g16 y18 (s.1 64 1) s rfl) dX11_buyer_147 cv_X11_171 rfl (okX4_o g16) rc_4 (by decide) (by first | exact Nat.le_of_ble_eq_true rfl | simp [rva_cat, vc_i, vc_r, vc_l, vc_n]) nn0 rfl (pc2 := 150) rfl ?_
      cases hf
      exact e_iret rfl dX11_buyer_150
    have hf := if_f c15 hf
    refine e_tableOut (tgt := 151) dX11_buyer_21 ?_ (by decide) ?_
    · have q0 := lv_neT (a := 0) c6 (by decide)
      have q1 := lv_neT (a := 1) c7 (by decide)
      have q2 := lv_neT (a := 2) c8 (by decide)
      have q3 := lv_neT (a := 3) c9 (by decide)
      have q4 := lv_neT (a := 4) c10 (by decide)
      have q5 := lv_neT (a := 5) c11 (by decide)
      have q6 := lv_neT (a := 6) c12 (by decide)
      have q7 := lv_neT (a := 7) c15 (by decide)
      omega
    refine e_iconst (x := (-1)) dX11_buyer_151 (by decide) (pc2 := 152) rfl ?_
    cases hf
    exact e_iret rfl dX11_buyer_152
  · have hf := if_t c2 hf
    refine e_iconst (x := (-1)) dX11_buyer_8 (by decide) (pc2 := 9) rfl ?_
    cases hf
    exact e_iret rfl dX11_buyer_9
