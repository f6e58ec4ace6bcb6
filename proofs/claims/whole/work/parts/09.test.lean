abbrev DDX4_farOf : Nat := 1
def f_X4_farOf (p : Nat) (v1 : Int32) (v2 : Int32) (s : HS) : Option Int32 :=
  gd (inb v1 6) (gd (inb (s.1 (Rf (Rf p 15) v1.toNatClampNeg) 2) 6) (some (iabs ((s.1 (Rf p 11) (s.1 (Rf (Rf p 15) v1.toNatClampNeg) 2).toNatClampNeg) - v2))))
set_option maxRecDepth 20000 in
set_option maxHeartbeats 2000000 in
theorem t_X4_farOf (p : Nat) (hp_ : okX4 p = true) (v1 : Int32) (v2 : Int32) (s : HS) {x : Int32} (hf : f_X4_farOf p v1 v2 s = some x) : Mt DDX4_farOf miX4_farOf [.ref p, .int v1, .int v2] NF (hp s) (some (.int x)) NF (hp s) := by
  refine Mt.of (by decide +kernel) (Nat.le_refl _) (Nat.le_of_ble_eq_true rfl) ?_
  show Ev DDX4_farOf miX4_farOf NF (some (.int x)) NF (hp s) 0 NF [(0, .ref p), (1, .int v1), (2, .int v2)] [] (hp s)
  unfold f_X4_farOf at hf
  refine e_aload_n dX4_farOf_0 0 rfl rfl ?_
  refine e_getR (r := Rf p 11) fl_X4_26 dX4_farOf_1 (okX4_o hp_) (okX4_R hp_) (isA_ne (okX4_yards hp_)) ?_
  refine e_aload_n dX4_farOf_4 0 rfl rfl ?_
  refine e_getR (r := Rf p 15) fl_X4_37 dX4_farOf_5 (okX4_o hp_) (okX4_R hp_) (isA_ne (okX4_buyer hp_)) ?_
  refine e_iload_n dX4_farOf_8 1 rfl rfl ?_
  obtain ⟨g1, hf⟩ := gd_some hf
  refine e_aald (r := Rf (Rf p 15) v1.toNatClampNeg) dX4_farOf_9 (okX4_buyer hp_) (by decide) (inb_v g1) (Rs_na (okX4_buyer hp_) (by decide)) (okX0_ne (okX4_buyer_el hp_ (inb_v g1))) ?_
  refine e_getI fl_X4_85 dX4_farOf_10 (okX0_o (okX4_buyer_el hp_ (inb_v g1))) (by decide) ?_
  obtain ⟨g2, hf⟩ := gd_some hf
  refine e_iald dX4_farOf_13 (okX4_yards hp_) (inb_v g2) ?_
  refine e_iload_n dX4_farOf_14 2 rfl rfl ?_
  refine e_isub dX4_farOf_15 ?_
  refine e_mabs dX4_farOf_16 mm_X4_88 (by decide) nn0 (by decide) ?_
  cases hf
  exact e_iret rfl dX4_farOf_19
abbrev DDX4_wayOf : Nat := 2
def f_X4_wayOf (p : Nat) (v1 : Int32) (v2 : Int32) (s : HS) : Option Int32 :=
  bnd (f_X4_farOf p v1 v2 s) fun y1 => some ((y1 * (s.1 p 6)) / 10)
set_option maxRecDepth 20000 in
set_option maxHeartbeats 2000000 in
theorem t_X4_wayOf (p : Nat) (hp_ : okX4 p = true) (v1 : Int32) (v2 : Int32) (s : HS) {x : Int32} (hf : f_X4_wayOf p v1 v2 s = some x) : Mt DDX4_wayOf miX4_wayOf [.ref p, .int v1, .int v2] NF (hp s) (some (.int x)) NF (hp s) := by
  refine Mt.of (by decide +kernel) (Nat.le_refl _) (Nat.le_of_ble_eq_true rfl) ?_
  show Ev DDX4_wayOf miX4_wayOf NF (some (.int x)) NF (hp s) 0 NF [(0, .ref p), (1, .int v1), (2, .int v2)] [] (hp s)
  unfold f_X4_wayOf at hf
  refine e_aload_n dX4_wayOf_0 0 rfl rfl ?_
  refine e_iload_n dX4_wayOf_1 1 rfl rfl ?_
  refine e_iload_n dX4_wayOf_2 2 rfl rfl ?_
  obtain ⟨y1, hy1, hf⟩ := bnd_s hf
  refine e_callVs (t_X4_farOf p hp_ v1 v2 s hy1) dX4_wayOf_3 cv_X4_94 rfl (okX4_o hp_) rfl (by decide) (by decide) nn0 _ rfl ?_
  refine e_aload_n dX4_wayOf_6 0 rfl rfl ?_
  refine e_getI fl_X4_65 dX4_wayOf_7 (okX4_o hp_) (by decide) ?_
  refine e_imul dX4_wayOf_10 ?_
  refine e_bipush (x := 10) dX4_wayOf_11 (by decide) ?_
  refine e_idiv dX4_wayOf_13 (by decide) ?_
  cases hf
  exact e_iret rfl dX4_wayOf_14
abbrev DDX4_secsFor : Nat := 1
def f_X4_secsFor_l4b (v0 : Nat) (v1 : Int32) (v2 : Int32) (v3 : Int32) (k4 : Int32 → Int32 → Option Int32) (s : HS) : Option Int32 :=
  gd (inb v1 6) ((if (s.1 (Rf (Rf v0 15) v1.toNatClampNeg) 6) ≤ v3 then some v2 else gd (inb v1 6) (gd (inb v3 3) (gd (inb (s.1 (Rf (Rf (Rf v0 15) v1.toNatClampNeg) 5) v3.toNatClampNeg) 5) (ltb (v2 + (s.1 (Rf (Rf v0 13) (s.1 (Rf (Rf (Rf v0 15) v1.toNatClampNeg) 5) v3.toNatClampNeg).toNatClampNeg) 2)) fun x6 => ltb (v3 + 1) fun x7 => k4 x6 x7)))))
set_option maxRecDepth 20000 in
set_option maxHeartbeats 2000000 in
theorem t_X4_secsFor_l4b (v0 : Nat) (v1 : Int32) (v2 : Int32) (v3 : Int32) (hv0 : okX4 v0 = true) (s : HS) {x : Int32} (k4 : Int32 → Int32 → Option Int32) (hk4 : ∀ (a2 : Int32) (a3 : Int32), k4 a2 a3 = some x → Ev DDX4_secsFor miX4_secsFor NF (some (.int x)) NF (hp s) 4 NF [(0, .ref v0), (1, .int v1), (2, .int a2), (3, .int a3)] [] (hp s)) (hf : f_X4_secsFor_l4b v0 v1 v2 v3 k4 s = some x) : Ev DDX4_secsFor miX4_secsFor NF (some (.int x)) NF (hp s) 4 NF [(0, .ref v0), (1, .int v1), (2, .int v2), (3, .int v3)] [] (hp s) := by
  refine e_iload_n dX4_secsFor_4 3 rfl rfl ?_
  refine e_aload_n dX4_secsFor_5 0 rfl rfl ?_
  refine e_getR (r := Rf v0 15) fl_X4_37 dX4_secsFor_6 (okX4_o hv0) (okX4_R hv0) (isA_ne (okX4_buyer hv0)) ?_
  refine e_iload_n dX4_secsFor_9 1 rfl rfl ?_
  obtain ⟨g1, hf⟩ := gd_some hf
  refine e_aald (r := Rf (Rf v0 15) v1.toNatClampNeg) dX4_secsFor_10 (okX4_buyer hv0) (by decide) (inb_v g1) (Rs_na (okX4_buyer hv0) (by decide)) (okX0_ne (okX4_buyer_el hv0 (inb_v g1))) ?_
  refine e_getI fl_X4_104 dX4_secsFor_11 (okX0_o (okX4_buyer_el hv0 (inb_v g1))) (by decide) ?_
  refine e_icmp_ge (tgt := 45) dX4_secsFor_14 (by decide) (fun c2 => ?_) (fun c2 => ?_)
  · have hf := if_t c2 hf
    refine e_iload_n dX4_secsFor_45 2 rfl rfl ?_
    cases hf
    exact e_iret rfl dX4_secsFor_46
  · have hf := if_f c2 hf
    refine e_iload_n dX4_secsFor_17 2 rfl rfl ?_
    refine e_aload_n dX4_secsFor_18 0 rfl rfl ?_
    refine e_getR (r := Rf v0 13) fl_X4_31 dX4_secsFor_19 (okX4_o hv0) (okX4_R hv0) (isA_ne (okX4_thing hv0)) ?_
    refine e_aload_n dX4_secsFor_22 0 rfl rfl ?_
    refine e_getR (r := Rf v0 15) fl_X4_37 dX4_secsFor_23 (okX4_o hv0) (okX4_R hv0) (isA_ne (okX4_buyer hv0)) ?_
    refine e_iload_n dX4_secsFor_26 1 rfl rfl ?_
    obtain ⟨g3, hf⟩ := gd_some hf
    refine e_aald (r := Rf (Rf v0 15) v1.toNatClampNeg) dX4_secsFor_27 (okX4_buyer hv0) (by decide) (inb_v g3) (Rs_na (okX4_buyer hv0) (by decide)) (okX0_ne (okX4_buyer_el hv0 (inb_v g3))) ?_
    refine e_getR (r := Rf (Rf (Rf v0 15) v1.toNatClampNeg) 5) fl_X4_107 dX4_secsFor_28 (okX0_o (okX4_buyer_el hv0 (inb_v g3))) (okX0_R (okX4_buyer_el hv0 (inb_v g3))) (isA_ne (okX0_wants (okX4_buyer_el hv0 (inb_v g3)))) ?_
    refine e_iload_n dX4_secsFor_31 3 rfl rfl ?_
    obtain ⟨g4, hf⟩ := gd_some hf
    refine e_iald dX4_secsFor_32 (okX0_wants (okX4_buyer_el hv0 (inb_v g3))) (inb_v g4) ?_
    obtain ⟨g5, hf⟩ := gd_some hf
    refine e_aald (r := Rf (Rf v0 13) (s.1 (Rf (Rf (Rf v0 15) v1.toNatClampNeg) 5) v3.toNatClampNeg).toNatClampNeg) dX4_secsFor_33 (okX4_thing hv0) (by decide) (inb_v g5) (Rs_na (okX4_thing hv0) (by decide)) (okX9_ne (okX4_thing_el hv0 (inb_v g5))) ?_
    refine e_getI fl_X4_110 dX4_secsFor_34 (okX9_o (okX4_thing_el hv0 (inb_v g5))) (by decide) ?_
    refine e_iadd dX4_secsFor_37 ?_
    obtain ⟨x6, ex6, hf⟩ := ltb_s hf
    refine e_istore_n dX4_secsFor_38 rfl (by decide) ex6.symm (ls' := [(0, .ref v0), (1, .int v1), (2, .int x6), (3, .int v3)]) [1, 2, 0, 3] rfl ?_
    obtain ⟨x7, ex7, hf⟩ := ltb_s hf
    refine e_iinc dX4_secsFor_39 3 rfl (c9 := 1) (by decide) ex7.symm (by decide) (ls' := [(0, .ref v0), (1, .int v1), (2, .int x6), (3, .int x7)]) [1, 2, 3, 0] rfl ?_
    refine e_goto (tgt := 4) dX4_secsFor_42 (by decide) ?_
    exact hk4 x6 x7 hf
def f_X4_secsFor_l4 (v0 : Nat) (v1 : Int32) (s : HS) : Nat → Int32 → Int32 → Option Int32
  | 0, _, _ => none
  | n + 1, v2, v3 => f_X4_secsFor_l4b v0 v1 v2 v3 (f_X4_secsFor_l4 v0 v1 s n)  s
set_option maxRecDepth 20000 in
set_option maxHeartbeats 2000000 in
theorem t_X4_secsFor_l4 (v0 : Nat) (v1 : Int32) (hv0 : okX4 v0 = true) (s : HS) {x : Int32}  : ∀ (n : Nat) (v2 : Int32) (v3 : Int32), f_X4_secsFor_l4 v0 v1 s n v2 v3 = some x → Ev DDX4_secsFor miX4_secsFor NF (some (.int x)) NF (hp s) 4 NF [(0, .ref v0), (1, .int v1), (2, .int v2), (3, .int v3)] [] (hp s) := by
  intro n
  induction n with
  | zero =>
    intro v2 v3 hf
    have hf : none = some x := hf
    cases hf
  | succ n ih =>
    intro v2 v3 hf
    exact t_X4_secsFor_l4b v0 v1 v2 v3 hv0 s _ ih  hf
def f_X4_secsFor (p : Nat) (v1 : Int32) (s : HS) : Option Int32 :=
  f_X4_secsFor_l4 p v1 s FU 0 0
set_option maxRecDepth 20000 in
set_option maxHeartbeats 2000000 in
theorem t_X4_secsFor (p : Nat) (hp_ : okX4 p = true) (v1 : Int32) (s : HS) {x : Int32} (hf : f_X4_secsFor p v1 s = some x) : Mt DDX4_secsFor miX4_secsFor [.ref p, .int v1] NF (hp s) (some (.int x)) NF (hp s) := by
  refine Mt.of (by decide +kernel) (Nat.le_refl _) (Nat.le_of_ble_eq_true rfl) ?_
  show Ev DDX4_secsFor miX4_secsFor NF (some (.int x)) NF (hp s) 0 NF [(0, .ref p), (1, .int v1)] [] (hp s)
  unfold f_X4_secsFor at hf
  refine e_iconst (x := 0) dX4_secsFor_0 (by decide) ?_
  refine e_istore_n dX4_secsFor_1 rfl (by decide) rfl (ls' := [(0, .ref p), (1, .int v1), (2, .int 0)]) [1, 2, 0] rfl ?_
  refine e_iconst (x := 0) dX4_secsFor_2 (by decide) ?_
  refine e_istore_n dX4_secsFor_3 rfl (by decide) rfl (ls' := [(0, .ref p), (1, .int v1), (2, .int 0), (3, .int 0)]) [1, 2, 3, 0] rfl ?_
  refine t_X4_secsFor_l4 p v1 hp_ s FU 0 0 hf
abbrev DDX12_within : Nat := 1
def f_X12_within (v0 : Int32) (v1 : Int32) (v2 : Int32) (s : HS) : Int32 :=
  (if v0 < v1 then 0 else (if v2 < v0 then 0 else 1))
set_option maxRecDepth 20000 in
set_option maxHeartbeats 2000000 in
theorem t_X12_within (v0 : Int32) (v1 : Int32) (v2 : Int32) (s : HS) {x : Int32} (hf : f_X12_within v0 v1 v2 s = x) : Mt DDX12_within miX12_within [.int v0, .int v1, .int v2] NF (hp s) (some (.int x)) NF (hp s) := by
  refine Mt.of (by decide +kernel) (Nat.le_refl _) (Nat.le_of_ble_eq_true rfl) ?_
  show Ev DDX12_within miX12_within NF (some (.int x)) NF (hp s) 0 NF [(0, .int v0), (1, .int v1), (2, .int v2)] [] (hp s)
  unfold f_X12_within at hf
  refine e_iload_n dX12_within_0 0 rfl rfl ?_
  refine e_iload_n dX12_within_1 1 rfl rfl ?_
  refine e_icmp_lt (tgt := 14) dX12_within_2 (by decide) (fun c1 => ?_) (fun c1 => ?_)
  · have hf := if_t c1 hf
    refine e_iconst (x := 0) dX12_within_14 (by decide) ?_
    cases hf
    exact e_zret (by decide) rfl dX12_within_15
  · have hf := if_f c1 hf
    refine e_iload_n dX12_within_5 0 rfl rfl ?_
    refine e_iload_n dX12_within_6 2 rfl rfl ?_
    refine e_icmp_gt (tgt := 14) dX12_within_7 (by decide) (fun c2 => ?_) (fun c2 => ?_)
    · have hf := if_t c2 hf
      refine e_iconst (x := 0) dX12_within_14 (by decide) ?_
      cases hf
      exact e_zret (by decide) rfl dX12_within_15
    · have hf := if_f c2 hf
      refine e_iconst (x := 1) dX12_within_10 (by decide) ?_
      refine e_goto (tgt := 15) dX12_within_11 (by decide) ?_
      cases hf
      exact e_zret (by decide) rfl dX12_within_15
abbrev DDX12_away : Nat := 1
def f_X12_away (v0 : Int32) (v1 : Int32) (s : HS) : Int32 :=
  (if v1 ≤ v0 then v0 - v1 else v1 - v0)
set_option maxRecDepth 20000 in
set_option maxHeartbeats 2000000 in
theorem t_X12_away (v0 : Int32) (v1 : Int32) (s : HS) {x : Int32} (hf : f_X12_away v0 v1 s = x) : Mt DDX12_away miX12_away [.int v0, .int v1] NF (hp s) (some (.int x)) NF (hp s) := by
  refine Mt.of (by decide +kernel) (Nat.le_refl _) (Nat.le_of_ble_eq_true rfl) ?_
  show Ev DDX12_away miX12_away NF (some (.int x)) NF (hp s) 0 NF [(0, .int v0), (1, .int v1)] [] (hp s)
  unfold f_X12_away at hf
  refine e_iload_n dX12_away_0 0 rfl rfl ?_
  refine e_iload_n dX12_away_1 1 rfl rfl ?_
  refine e_icmp_ge (tgt := 11) dX12_away_2 (by decide) (fun c1 => ?_) (fun c1 => ?_)
  · have hf := if_t c1 hf
    refine e_iload_n dX12_away_11 0 rfl rfl ?_
    refine e_iload_n dX12_away_12 1 rfl rfl ?_
    refine e_isub dX12_away_13 ?_
    cases hf
    exact e_iret rfl dX12_away_14
  · have hf := if_f c1 hf
    refine e_iload_n dX12_away_5 1 rfl rfl ?_
    refine e_iload_n dX12_away_6 0 rfl rfl ?_
    refine e_isub dX12_away_7 ?_
    refine e_goto (tgt := 14) dX12_away_8 (by decide) ?_
    cases hf
    exact e_iret rfl dX12_away_14
abbrev DDX12_bits : Nat := 1
def f_X12_bits_l4b (v0 : Int32) (v1 : Int32) (v2 : Int32) (k4 : Int32 → Int32 → Option Int32) (s : HS) : Option Int32 :=
  (if 6 ≤ v2 then some v1 else ltb (v1 + ((v0 >>> (v2 &&& 31)) &&& 1)) fun x2 => ltb (v2 + 1) fun x3 => k4 x2 x3)
set_option maxRecDepth 20000 in
set_option maxHeartbeats 2000000 in
theorem t_X12_bits_l4b (v0 : Int32) (v1 : Int32) (v2 : Int32) (s : HS) {x : Int32} (k4 : Int32 → Int32 → Option Int32) (hk4 : ∀ (a1 : Int32) (a2 : Int32), k4 a1 a2 = some x → Ev DDX12_bits miX12_bits NF (some (.int x)) NF (hp s) 4 NF [(0, .int v0), (1, .int a1), (2, .int a2)] [] (hp s)) (hf : f_X12_bits_l4b v0 v1 v2 k4 s = some x) : Ev DDX12_bits miX12_bits NF (some (.int x)) NF (hp s) 4 NF [(0, .int v0), (1, .int v1), (2, .int v2)] [] (hp s) := by
  refine e_iload_n dX12_bits_4 2 rfl rfl ?_
  refine e_bipush (x := 6) dX12_bits_5 (by decide) ?_
  refine e_icmp_ge (tgt := 24) dX12_bits_7 (by decide) (fun c1 => ?_) (fun c1 => ?_)
  · have hf := if_t c1 hf
    refine e_iload_n dX12_bits_24 1 rfl rfl ?_
    cases hf
    exact e_iret rfl dX12_bits_25
  · have hf := if_f c1 hf
    refine e_iload_n dX12_bits_10 1 rfl rfl ?_
    refine e_iload_n dX12_bits_11 0 rfl rfl ?_
    refine e_iload_n dX12_bits_12 2 rfl rfl ?_
    refine e_ishr dX12_bits_13 ?_
    refine e_iconst (x := 1) dX12_bits_14 (by decide) ?_
    refine e_iand dX12_bits_15 ?_
    refine e_iadd dX12_bits_16 ?_
    obtain ⟨x2, ex2, hf⟩ := ltb_s hf
    refine e_istore_n dX12_bits_17 rfl (by decide) ex2.symm (ls' := [(0, .int v0), (1, .int x2), (2, .int v2)]) [1, 0, 2] rfl ?_
    obtain ⟨x3, ex3, hf⟩ := ltb_s hf
    refine e_iinc dX12_bits_18 2 rfl (c9 := 1) (by decide) ex3.symm (by decide) (ls' := [(0, .int v0), (1, .int x2), (2, .int x3)]) [1, 2, 0] rfl ?_
    refine e_goto (tgt := 4) dX12_bits_21 (by decide) ?_
    exact hk4 x2 x3 hf
def f_X12_bits_l4 (v0 : Int32) (s : HS) : Nat → Int32 → Int32 → Option Int32
  | 0, _, _ => none
  | n + 1, v1, v2 => f_X12_bits_l4b v0 v1 v2 (f_X12_bits_l4 v0 s n)  s
set_option maxRecDepth 20000 in
set_option maxHeartbeats 2000000 in
theorem t_X12_bits_l4 (v0 : Int32) (s : HS) {x : Int32}  : ∀ (n : Nat) (v1 : Int32) (v2 : Int32), f_X12_bits_l4 v0 s n v1 v2 = some x → Ev DDX12_bits miX12_bits NF (some (.int x)) NF (hp s) 4 NF [(0, .int v0), (1, .int v1), (2, .int v2)] [] (hp s) := by
  intro n
  induction n with
  | zero =>
    intro v1 v2 hf
    have hf : none = some x := hf
    cases hf
  | succ n ih =>
    intro v1 v2 hf
    exact t_X12_bits_l4b v0 v1 v2  s _ ih  hf
def f_X12_bits (v0 : Int32) (s : HS) : Option Int32 :=
  f_X12_bits_l4 v0 s FU 0 0
set_option maxRecDepth 20000 in
set_option maxHeartbeats 2000000 in
theorem t_X12_bits (v0 : Int32) (s : HS) {x : Int32} (hf : f_X12_bits v0 s = some x) : Mt DDX12_bits miX12_bits [.int v0] NF (hp s) (some (.int x)) NF (hp s) := by
  refine Mt.of (by decide +kernel) (Nat.le_refl _) (Nat.le_of_ble_eq_true rfl) ?_
  show Ev DDX12_bits miX12_bits NF (some (.int x)) NF (hp s) 0 NF [(0, .int v0)] [] (hp s)
  unfold f_X12_bits at hf
  refine e_iconst (x := 0) dX12_bits_0 (by decide) ?_
  refine e_istore_n dX12_bits_1 rfl (by decide) rfl (ls' := [(0, .int v0), (1, .int 0)]) [1, 0] rfl ?_
  refine e_iconst (x := 0) dX12_bits_2 (by decide) ?_
  refine e_istore_n dX12_bits_3 rfl (by decide) rfl (ls' := [(0, .int v0), (1, .int 0), (2, .int 0)]) [1, 2, 0] rfl ?_
  refine t_X12_bits_l4 v0 s FU 0 0 hf
abbrev DDX12_feed : Nat := 1
def f_X12_feed_j93 (v1 : Int64) (v3 : Int64) (v5 : Int64) (v7 : Int32) (v10 : Int32) (k8 : Int32 → HS → Option (Int32 × HS)) (s : HS) : Option (Int32 × HS) :=
  gd (inb (s.1 101 1) 1000) (ltb (sI s 102 ((s.1 101 1).toNatClampNeg) v10) fun s9 => ltb (sI s9 101 1 ((s9.1 101 1) + 1)) fun s11 => ltb (v7 + 1) fun x12 => k8 x12 s11)
set_option maxRecDepth 20000 in
set_option maxHeartbeats 2000000 in
theorem t_X12_feed_j93 (v1 : Int64) (v3 : Int64) (v5 : Int64) (v7 : Int32) (v10 : Int32) (s : HS) {x : Int32} {t : HS} (k8 : Int32 → HS → Option (Int32 × HS)) (hk8 : ∀ (a7 : Int32) (s : HS), k8 a7 s = some (x, t) → Ev DDX12_feed miX12_feed NF (some (.int x)) NF (hp t) 8 NF [(0, .ref 101), (1, .long v1), (3, .long v3), (5, .long v5), (7, .int a7)] [] (hp s)) (hf : f_X12_feed_j93 v1 v3 v5 v7 v10 k8 s = some (x, t)) : Ev DDX12_feed miX12_feed NF (some (.int x)) NF (hp t) 93 NF [(0, .ref 101), (1, .long v1), (3, .long v3), (5, .long v5), (7, .int v7), (10, .int v10)] [] (hp s) := by
  refine e_aload_n dX12_feed_93 0 rfl rfl ?_
  refine e_getR (r := 102) fl_X12_7 dX12_feed_94 so_101 rfl (by decide) ?_
  refine e_aload_n dX12_feed_97 0 rfl rfl ?_
  refine e_getI fl_X12_199 dX12_feed_98 so_101 (by decide) ?_
  refine e_iload dX12_feed_101 5 rfl ?_
  obtain ⟨g10, hf⟩ := gd_some hf
  obtain ⟨s9, es9, hf⟩ := ltb_s hf
  refine e_iast dX12_feed_103 sa_102 (inb_v g10) (h2 := hp s9) (by rw [es9]; rfl) ?_
  refine e_aload_n dX12_feed_104 0 rfl rfl ?_
  refine e_dup dX12_feed_105 rfl ?_
  refine e_getI fl_X12_199 dX12_feed_106 so_101 (by decide) ?_
  refine e_iconst (x := 1) dX12_feed_109 (by decide) ?_
  refine e_iadd dX12_feed_110 ?_
  obtain ⟨s11, es11, hf⟩ := ltb_s hf
  refine e_putI fl_X12_199 dX12_feed_111 so_101 fn_11_1 (h2 := hp s11) (by rw [es11]; rfl) ?_
  obtain ⟨x12, ex12, hf⟩ := ltb_s hf
  refine e_iinc dX12_feed_114 4 rfl (c9 := 1) (by decide) ex12.symm (by decide) (ls' := [(0, .ref 101), (1, .long v1), (3, .long v3), (5, .long v5), (7, .int x12)]) [1, 2, 3, 4, 0] rfl ?_
  refine e_goto (tgt := 8) dX12_feed_117 (by decide) ?_
  exact hk8 x12 s11 hf
def f_X12_feed_j39 (v1 : Int64) (v3 : Int64) (v5 : Int64) (v7 : Int32) (w0 : Int64) (k8 : Int32 → HS → Option (Int32 × HS)) (s : HS) : Option (Int32 × HS) :=
  ltb ((((w0.toUInt64 >>> (((56 - (8 * (v7 &&& 7))) : Int32).toInt64.toUInt64 &&& Int64.toUInt64 63)).toInt64) &&& 255 : Int64).toInt32) fun x5 => (if 1000 ≤ (s.1 101 1) then ltb (v7 + 1) fun x7 => k8 x7 s else (if x5 = 10 then f_X12_feed_j93 v1 v3 v5 v7 x5 k8 s else (if x5 < 32 then ltb (v7 + 1) fun x14 => k8 x14 s else (if 126 < x5 then ltb (v7 + 1) fun x16 => k8 x16 s else f_X12_feed_j93 v1 v3 v5 v7 x5 k8 s))))
set_option maxRecDepth 20000 in
set_option maxHeartbeats 2000000 in
theorem t_X12_feed_j39 (v1 : Int64) (v3 : Int64) (v5 : Int64) (v7 : Int32) (w0 : Int64) (s : HS) {x : Int32} {t : HS} (k8 : Int32 → HS → Option (Int32 × HS)) (hk8 : ∀ (a7 : Int32) (s : HS), k8 a7 s = some (x, t) → Ev DDX12_feed miX12_feed NF (some (.int x)) NF (hp t) 8 NF [(0, .ref 101), (1, .long v1), (3, .long v3), (5, .long v5), (7, .int a7)] [] (hp s)) (hf : f_X12_feed_j39 v1 v3 v5 v7 w0 k8 s = some (x, t)) : Ev DDX12_feed miX12_feed NF (some (.int x)) NF (hp t) 39 NF [(0, .ref 101), (1, .long v1), (3, .long v3), (5, .long v5), (7, .int v7)] [.long w0] (hp s) := by
  refine e_lstore dX12_feed_39 (by decide) rfl (ls' := [(0, .ref 101), (1, .long v1), (3, .long v3), (5, .long v5), (7, .int v7), (8, .long w0)]) [1, 2, 3, 4, 5, 0] rfl ?_
  refine e_lload dX12_feed_41 5 rfl ?_
  refine e_bipush (x := 56) dX12_feed_43 (by decide) ?_
  refine e_bipush (x := 8) dX12_feed_45 (by decide) ?_
  refine e_iload dX12_feed_47 4 rfl ?_
  refine e_bipush (x := 7) dX12_feed_49 (by decide) ?_
  refine e_iand dX12_feed_51 ?_
  refine e_imul dX12_feed_52 ?_
  refine e_isub dX12_feed_53 ?_
  refine e_lushr dX12_feed_54 ?_
  refine e_ldc2 dX12_feed_55 lk_X12_197 ?_
  refine e_land dX12_feed_58 ?_
  refine e_l2i dX12_feed_59 ?_
  obtain ⟨x5, ex5, hf⟩ := ltb_s hf
  refine e_istore dX12_feed_60 (by decide) ex5.symm (ls' := [(0, .ref 101), (1, .long v1), (3, .long v3), (5, .long v5), (7, .int v7), (10, .int x5)]) [1, 2, 3, 4, 5, 0] rfl ?_
  refine e_aload_n dX12_feed_62 0 rfl rfl ?_
  refine e_getI fl_X12_199 dX12_feed_63 so_101 (by decide) ?_
  refine e_sipush (x := 1000) dX12_feed_66 (by decide) ?_
  refine e_icmp_ge (tgt := 114) dX12_feed_69 (by decide) (fun c6 => ?_) (fun c6 => ?_)
  · have hf := if_t c6 hf
    obtain ⟨x7, ex7, hf⟩ := ltb_s hf
    refine e_iinc dX12_feed_114 4 rfl (c9 := 1) (by decide) ex7.symm (by decide) (ls' := [(0, .ref 101), (1, .long v1), (3, .long v3), (5, .long v5), (7, .int x7)]) [1, 2, 3, 4, 0] rfl ?_
    refine e_goto (tgt := 8) dX12_feed_117 (by decide) ?_
    exact hk8 x7 s hf
  · have hf := if_f c6 hf
    refine e_iload dX12_feed_72 5 rfl ?_
    refine e_bipush (x := 10) dX12_feed_74 (by decide) ?_
    refine e_icmp_eq (tgt := 93) dX12_feed_76 (by decide) (fun c8 => ?_) (fun c8 => ?_)
    · have hf := if_t c8 hf
      exact t_X12_feed_j93 v1 v3 v5 v7 x5 s _ hk8 hf
    · have hf := if_f c8 hf
      refine e_iload dX12_feed_79 5 rfl ?_
      refine e_bipush (x := 32) dX12_feed_81 (by decide) ?_
      refine e_icmp_lt (tgt := 114) dX12_feed_83 (by decide) (fun c13 => ?_) (fun c13 => ?_)
      · have hf := if_t c13 hf
        obtain ⟨x14, ex14, hf⟩ := ltb_s hf
        refine e_iinc dX12_feed_114 4 rfl (c9 := 1) (by decide) ex14.symm (by decide) (ls' := [(0, .ref 101), (1, .long v1), (3, .long v3), (5, .long v5), (7, .int x14)]) [1, 2, 3, 4, 0] rfl ?_
        refine e_goto (tgt := 8) dX12_feed_117 (by decide) ?_
        exact hk8 x14 s hf
      · have hf := if_f c13 hf
        refine e_iload dX12_feed_86 5 rfl ?_
        refine e_bipush (x := 126) dX12_feed_88 (by decide) ?_
        refine e_icmp_gt (tgt := 114) dX12_feed_90 (by decide) (fun c15 => ?_) (fun c15 => ?_)
        · have hf := if_t c15 hf
          obtain ⟨x16, ex16, hf⟩ := ltb_s hf
          refine e_iinc dX12_feed_114 4 rfl (c9 := 1) (by decide) ex16.symm (by decide) (ls' := [(0, .ref 101), (1, .long v1), (3, .long v3), (5, .long v5), (7, .int x16)]) [1, 2, 3, 4, 0] rfl ?_
          refine e_goto (tgt := 8) dX12_feed_117 (by decide) ?_
          exact hk8 x16 s hf
        · have hf := if_f c15 hf
          exact t_X12_feed_j93 v1 v3 v5 v7 x5 s _ hk8 hf
def f_X12_feed_l8b (v1 : Int64) (v3 : Int64) (v5 : Int64) (v7 : Int32) (k8 : Int32 → HS → Option (Int32 × HS)) (s : HS) : Option (Int32 × HS) :=
  (if 24 ≤ v7 then some (s.1 101 1, s) else (if 8 ≤ v7 then (if 16 ≤ v7 then f_X12_feed_j39 v1 v3 v5 v7 v5 k8 s else f_X12_feed_j39 v1 v3 v5 v7 v3 k8 s) else f_X12_feed_j39 v1 v3 v5 v7 v1 k8 s))
set_option maxRecDepth 20000 in
set_option maxHeartbeats 2000000 in
theorem t_X12_feed_l8b (v1 : Int64) (v3 : Int64) (v5 : Int64) (v7 : Int32) (s : HS) {x : Int32} {t : HS} (k8 : Int32 → HS → Option (Int32 × HS)) (hk8 : ∀ (a7 : Int32) (s : HS), k8 a7 s = some (x, t) → Ev DDX12_feed miX12_feed NF (some (.int x)) NF (hp t) 8 NF [(0, .ref 101), (1, .long v1), (3, .long v3), (5, .long v5), (7, .int a7)] [] (hp s)) (hf : f_X12_feed_l8b v1 v3 v5 v7 k8 s = some (x, t)) : Ev DDX12_feed miX12_feed NF (some (.int x)) NF (hp t) 8 NF [(0, .ref 101), (1, .long v1), (3, .long v3), (5, .long v5), (7, .int v7)] [] (hp s) := by
  refine e_iload dX12_feed_8 4 rfl ?_
  refine e_bipush (x := 24) dX12_feed_10 (by decide) ?_
  refine e_icmp_ge (tgt := 120) dX12_feed_12 (by decide) (fun c2 => ?_) (fun c2 => ?_)
  · have hf := if_t c2 hf
    refine e_aload_n dX12_feed_120 0 rfl rfl ?_
    refine e_getI fl_X12_199 dX12_feed_121 so_101 (by decide) ?_
    cases hf
    exact e_iret rfl dX12_feed_124
  · have hf := if_f c2 hf
    refine e_iload dX12_feed_15 4 rfl ?_
    refine e_bipush (x := 8) dX12_feed_17 (by decide) ?_
    refine e_icmp_ge (tgt := 26) dX12_feed_19 (by decide) (fun c3 => ?_) (fun c3 => ?_)
    · have hf := if_t c3 hf
      refine e_iload dX12_feed_26 4 rfl ?_
      refine e_bipush (x := 16) dX12_feed_28 (by decide) ?_
      refine e_icmp_ge (tgt := 37) dX12_feed_30 (by decide) (fun c4 => ?_) (fun c4 => ?_)
      · have hf := if_t c4 hf
        refine e_lload dX12_feed_37 3 rfl ?_
        exact t_X12_feed_j39 v1 v3 v5 v7 v5 s _ hk8 hf
      · have hf := if_f c4 hf
        refine e_lload_n dX12_feed_33 2 rfl rfl ?_
        refine e_goto (tgt := 39) dX12_feed_34 (by decide) ?_
        exact t_X12_feed_j39 v1 v3 v5 v7 v3 s _ hk8 hf
    · have hf := if_f c3 hf
      refine e_lload_n dX12_feed_22 1 rfl rfl ?_
      refine e_goto (tgt := 39) dX12_feed_23 (by decide) ?_
      exact t_X12_feed_j39 v1 v3 v5 v7 v1 s _ hk8 hf
def f_X12_feed_l8 (v1 : Int64) (v3 : Int64) (v5 : Int64) : Nat → Int32 → HS → Option (Int32 × HS)
  | 0, _, _ => none
  | n + 1, v7, s => f_X12_feed_l8b v1 v3 v5 v7 (f_X12_feed_l8 v1 v3 v5 n)  s
set_option maxRecDepth 20000 in
set_option maxHeartbeats 2000000 in
theorem t_X12_feed_l8 (v1 : Int64) (v3 : Int64) (v5 : Int64) {x : Int32} {t : HS}  : ∀ (n : Nat) (v7 : Int32) (s : HS), f_X12_feed_l8 v1 v3 v5 n v7 s = some (x, t) → Ev DDX12_feed miX12_feed NF (some (.int x)) NF (hp t) 8 NF [(0, .ref 101), (1, .long v1), (3, .long v3), (5, .long v5), (7, .int v7)] [] (hp s) := by
  intro n
  induction n with
  | zero =>
    intro v7 s hf
    have hf : none = some (x, t) := hf
    cases hf
  | succ n ih =>
    intro v7 s hf
    exact t_X12_feed_l8b v1 v3 v5 v7  s _ ih  hf
def f_X12_feed (v1 : Int64) (v3 : Int64) (v5 : Int64) (s : HS) : Option (Int32 × HS) :=
  ltb (sI s 101 0 0) fun s1 => f_X12_feed_l8 v1 v3 v5 FU 0 s1
set_option maxRecDepth 20000 in
set_option maxHeartbeats 2000000 in
theorem t_X12_feed (v1 : Int64) (v3 : Int64) (v5 : Int64) (s : HS) {x : Int32} {t : HS} (hf : f_X12_feed v1 v3 v5 s = some (x, t)) : Mt DDX12_feed miX12_feed [.ref 101, .long v1, .long v3, .long v5] NF (hp s) (some (.int x)) NF (hp t) := by
  refine Mt.of (by decide +kernel) (Nat.le_refl _) (Nat.le_of_ble_eq_true rfl) ?_
  show Ev DDX12_feed miX12_feed NF (some (.int x)) NF (hp t) 0 NF [(0, .ref 101), (1, .long v1), (3, .long v3), (5, .long v5)] [] (hp s)
  unfold f_X12_feed at hf
  refine e_aload_n dX12_feed_0 0 rfl rfl ?_
  refine e_iconst (x := 0) dX12_feed_1 (by decide) ?_
  obtain ⟨s1, es1, hf⟩ := ltb_s hf
  refine e_putI fl_X12_194 dX12_feed_2 so_101 fn_11_0 (h2 := hp s1) (by rw [es1]; rfl) ?_
  refine e_iconst (x := 0) dX12_feed_5 (by decide) ?_
  refine e_istore dX12_feed_6 (by decide) rfl (ls' := [(0, .ref 101), (1, .long v1), (3, .long v3), (5, .long v5), (7, .int 0)]) [1, 2, 3, 4, 0] rfl ?_
  refine t_X12_feed_l8 v1 v3 v5 FU 0 s1 hf
abbrev DDX12_signAt : Nat := 1
def f_X12_signAt (v1 : Int32) (s : HS) : Option Int32 :=
  (if (s.1 101 3) ≤ v1 then some 0 else gd (inb v1 1000) (some (s.1 102 v1.toNatClampNeg)))
set_option maxRecDepth 20000 in
set_option maxHeartbeats 2000000 in
theorem t_X12_signAt (v1 : Int32) (s : HS) {x : Int32} (hf : f_X12_signAt v1 s = some x) : Mt DDX12_signAt miX12_signAt [.ref 101, .int v1] NF (hp s) (some (.int x)) NF (hp s) := by
  refine Mt.of (by decide +kernel) (Nat.le_refl _) (Nat.le_of_ble_eq_true rfl) ?_
  show Ev DDX12_signAt miX12_signAt NF (some (.int x)) NF (hp s) 0 NF [(0, .ref 101), (1, .int v1)] [] (hp s)
  unfold f_X12_signAt at hf
  refine e_iload_n dX12_signAt_0 1 rfl rfl ?_
  refine e_aload_n dX12_signAt_1 0 rfl rfl ?_
  refine e_getI fl_X12_202 dX12_signAt_2 so_101 (by decide) ?_
  refine e_icmp_ge (tgt := 17) dX12_signAt_5 (by decide) (fun c1 => ?_) (fun c1 => ?_)
  · have hf := if_t c1 hf
    refine e_iconst (x := 0) dX12_signAt_17 (by decide) ?_
    cases hf
    exact e_iret rfl dX12_signAt_18
  · have hf := if_f c1 hf
    refine e_aload_n dX12_signAt_8 0 rfl rfl ?_
    refine e_getR (r := 102) fl_X12_7 dX12_signAt_9 so_101 rfl (by decide) ?_
    refine e_iload_n dX12_signAt_12 1 rfl rfl ?_
    obtain ⟨g2, hf⟩ := gd_some hf
    refine e_iald dX12_signAt_13 sa_102 (inb_v g2) ?_
    refine e_goto (tgt := 18) dX12_signAt_14 (by decide) ?_
    cases hf
    exact e_iret rfl dX12_signAt_18
abbrev DDX12_isWord : Nat := 1
def f_X12_isWord (v1 : Int64) (s : HS) : Int32 :=
  (if (s.1 101 6) = 1 then (if (lg_cmp (s.2.1 101 7) v1) = 0 then 1 else 0) else 0)
set_option maxRecDepth 20000 in
set_option maxHeartbeats 2000000 in
theorem t_X12_isWord (v1 : Int64) (s : HS) {x : Int32} (hf : f_X12_isWord v1 s = x) : Mt DDX12_isWord miX12_isWord [.ref 101, .long v1] NF (hp s) (some (.int x)) NF (hp s) := by
  refine Mt.of (by decide +kernel) (Nat.le_refl _) (Nat.le_of_ble_eq_true rfl) ?_
  show Ev DDX12_isWord miX12_isWord NF (some (.int x)) NF (hp s) 0 NF [(0, .ref 101), (1, .long v1)] [] (hp s)
  unfold f_X12_isWord at hf
  refine e_aload_n dX12_isWord_0 0 rfl rfl ?_
  refine e_getI fl_X12_218 dX12_isWord_1 so_101 (by decide) ?_
  refine e_iconst (x := 1) dX12_isWord_4 (by decide) ?_
  refine e_icmp_ne (tgt := 21) dX12_isWord_5 (by decide) (fun c1 => ?_) (fun c1 => ?_)
  · have hf := if_f c1 hf
    refine e_iconst (x := 0) dX12_isWord_21 (by decide) ?_
    cases hf
    exact e_zret (by decide) rfl dX12_isWord_22
  · have hf := if_t c1 hf
    refine e_aload_n dX12_isWord_8 0 rfl rfl ?_
    refine e_getL fl_X12_211 dX12_isWord_9 so_101 rfl ?_
    refine e_lload_n dX12_isWord_12 1 rfl rfl ?_
    refine e_lcmp dX12_isWord_13 ?_
    refine e_if_ne (tgt := 21) dX12_isWord_14 (by decide) (fun c2 => ?_) (fun c2 => ?_)
    · have hf := if_f c2 hf
      refine e_iconst (x := 0) dX12_isWord_21 (by decide) ?_
      cases hf
      exact e_zret (by decide) rfl dX12_isWord_22
    · have hf := if_t c2 hf
      refine e_iconst (x := 1) dX12_isWord_17 (by decide) ?_
      refine e_goto (tgt := 22) dX12_isWord_18 (by decide) ?_
      cases hf
      exact e_zret (by decide) rfl dX12_isWord_22
abbrev DDX12_isSign : Nat := 1
def f_X12_isSign (v1 : Int32) (s : HS) : Option Int32 :=
  (if (s.1 101 6) = 3 then gd (inb (s.1 101 5) 1000) ((if (s.1 102 (s.1 101 5).toNatClampNeg) = v1 then some 1 else some 0)) else some 0)
set_option maxRecDepth 20000 in
set_option maxHeartbeats 2000000 in
theorem t_X12_isSign (v1 : Int32) (s : HS) {x : Int32} (hf : f_X12_isSign v1 s = some x) : Mt DDX12_isSign miX12_isSign [.ref 101, .int v1] NF (hp s) (some (.int x)) NF (hp s) := by
  refine Mt.of (by decide +kernel) (Nat.le_refl _) (Nat.le_of_ble_eq_true rfl) ?_
  show Ev DDX12_isSign miX12_isSign NF (some (.int x)) NF (hp s) 0 NF [(0, .ref 101), (1, .int v1)] [] (hp s)
  unfold f_X12_isSign at hf
  refine e_aload_n dX12_isSign_0 0 rfl rfl ?_
  refine e_getI fl_X12_218 dX12_isSign_1 so_101 (by decide) ?_
  refine e_iconst (x := 3) dX12_isSign_4 (by decide) ?_
  refine e_icmp_ne (tgt := 25) dX12_isSign_5 (by decide) (fun c1 => ?_) (fun c1 => ?_)
  · have hf := if_f c1 hf
    refine e_iconst (x := 0) dX12_isSign_25 (by decide) ?_
    cases hf
    exact e_zret (by decide) rfl dX12_isSign_26
  · have hf := if_t c1 hf
    refine e_aload_n dX12_isSign_8 0 rfl rfl ?_
    refine e_getR (r := 102) fl_X12_7 dX12_isSign_9 so_101 rfl (by decide) ?_
    refine e_aload_n dX12_isSign_12 0 rfl rfl ?_
    refine e_getI fl_X12_208 dX12_isSign_13 so_101 (by decide) ?_
    obtain ⟨g2, hf⟩ := gd_some hf
    refine e_iald dX12_isSign_16 sa_102 (inb_v g2) ?_
    refine e_iload_n dX12_isSign_17 1 rfl rfl ?_
    refine e_icmp_ne (tgt := 25) dX12_isSign_18 (by decide) (fun c3 => ?_) (fun c3 => ?_)
    · have hf := if_f c3 hf
      refine e_iconst (x := 0) dX12_isSign_25 (by decide) ?_
      cases hf
      exact e_zret (by decide) rfl dX12_isSign_26
    · have hf := if_t c3 hf
      refine e_iconst (x := 1) dX12_isSign_21 (by decide) ?_
      refine e_goto (tgt := 26) dX12_isSign_22 (by decide) ?_
      cases hf
      exact e_zret (by decide) rfl dX12_isSign_26
abbrev DDX12_fails : Nat := 1
def f_X12_fails (v1 : Int32) (s : HS) : Option (Int32 × HS) :=
  ltb (sI s 101 9 (v1 + (16 * (s.1 101 5)))) fun s1 => some (0, s1)
set_option maxRecDepth 20000 in
set_option maxHeartbeats 2000000 in
theorem t_X12_fails (v1 : Int32) (s : HS) {x : Int32} {t : HS} (hf : f_X12_fails v1 s = some (x, t)) : Mt DDX12_fails miX12_fails [.ref 101, .int v1] NF (hp s) (some (.int x)) NF (hp t) := by
  refine Mt.of (by decide +kernel) (Nat.le_refl _) (Nat.le_of_ble_eq_true rfl) ?_
  show Ev DDX12_fails miX12_fails NF (some (.int x)) NF (hp t) 0 NF [(0, .ref 101), (1, .int v1)] [] (hp s)
  unfold f_X12_fails at hf
  refine e_aload_n dX12_fails_0 0 rfl rfl ?_
  refine e_iload_n dX12_fails_1 1 rfl rfl ?_
  refine e_bipush (x := 16) dX12_fails_2 (by decide) ?_
  refine e_aload_n dX12_fails_4 0 rfl rfl ?_
  refine e_getI fl_X12_208 dX12_fails_5 so_101 (by decide) ?_
  refine e_imul dX12_fails_8 ?_
  refine e_iadd dX12_fails_9 ?_
  obtain ⟨s1, es1, hf⟩ := ltb_s hf
  refine e_putI fl_X12_229 dX12_fails_10 so_101 fn_11_9 (h2 := hp s1) (by rw [es1]; rfl) ?_
  refine e_iconst (x := 0) dX12_fails_13 (by decide) ?_
  cases hf
  exact e_zret (by decide) rfl dX12_fails_14
abbrev DDX12_plain : Nat := 1
def f_X12_plain_l2b (v1 : Int32) (v2 : Int32) (k2 : Int32 → HS → Option HS) (k26 : HS → Option HS) (s : HS) : Option HS :=
  (if 10 ≤ v2 then k26 s else gd (inb ((10 * v1) + v2) 20) (ltb (sI s 103 (((10 * v1) + v2).toNatClampNeg) 0) fun s2 => ltb (v2 + 1) fun x4 => k2 x4 s2))
set_option maxRecDepth 20000 in
set_option maxHeartbeats 2000000 in
theorem t_X12_plain_l2b (v1 : Int32) (v2 : Int32) (s : HS) {t : HS} (k2 : Int32 → HS → Option HS) (hk2 : ∀ (a2 : Int32) (s : HS), k2 a2 s = some t → Ev DDX12_plain miX12_plain NF none NF (hp t) 2 NF [(0, .ref 101), (1, .int v1), (2, .int a2)] [] (hp s)) (k26 : HS → Option HS) (hk26 : ∀ (s : HS), k26 s = some t → Ev DDX12_plain miX12_plain NF none NF (hp t) 26 NF [(0, .ref 101), (1, .int v1)] [] (hp s)) (hf : f_X12_plain_l2b v1 v2 k2 k26 s = some t) : Ev DDX12_plain miX12_plain NF none NF (hp t) 2 NF [(0, .ref 101), (1, .int v1), (2, .int v2)] [] (hp s) := by
  refine e_iload_n dX12_plain_2 2 rfl rfl ?_
  refine e_bipush (x := 10) dX12_plain_3 (by decide) ?_
  refine e_icmp_ge (tgt := 26) dX12_plain_5 (by decide) (fun c1 => ?_) (fun c1 => ?_)
  · have hf := if_t c1 hf
    refine ev_sub [0, 1] rfl ?_
    exact hk26 s hf
  · have hf := if_f c1 hf
    refine e_aload_n dX12_plain_8 0 rfl rfl ?_
    refine e_getR (r := 103) fl_X12_13 dX12_plain_9 so_101 rfl (by decide) ?_
    refine e_bipush (x := 10) dX12_plain_12 (by decide) ?_
    refine e_iload_n dX12_plain_14 1 rfl rfl ?_
    refine e_imul dX12_plain_15 ?_
    refine e_iload_n dX12_plain_16 2 rfl rfl ?_
    refine e_iadd dX12_plain_17 ?_
    refine e_iconst (x := 0) dX12_plain_18 (by decide) ?_
    obtain ⟨g3, hf⟩ := gd_some hf
    obtain ⟨s2, es2, hf⟩ := ltb_s hf
    refine e_iast dX12_plain_19 sa_103 (inb_v g3) (h2 := hp s2) (by rw [es2]; rfl) ?_
    obtain ⟨x4, ex4, hf⟩ := ltb_s hf
    refine e_iinc dX12_plain_20 2 rfl (c9 := 1) (by decide) ex4.symm (by decide) (ls' := [(0, .ref 101), (1, .int v1), (2, .int x4)]) [1, 2, 0] rfl ?_
    refine e_goto (tgt := 2) dX12_plain_23 (by decide) ?_
    exact hk2 x4 s2 hf
def f_X12_plain_l2 (v1 : Int32) (k26 : HS → Option HS) : Nat → Int32 → HS → Option HS
  | 0, _, _ => none
  | n + 1, v2, s => f_X12_plain_l2b v1 v2 (f_X12_plain_l2 v1 k26 n) k26 s
set_option maxRecDepth 20000 in
set_option maxHeartbeats 2000000 in
theorem t_X12_plain_l2 (v1 : Int32) {t : HS} (k26 : HS → Option HS) (hk26 : ∀ (s : HS), k26 s = some t → Ev DDX12_plain miX12_plain NF none NF (hp t) 26 NF [(0, .ref 101), (1, .int v1)] [] (hp s)) : ∀ (n : Nat) (v2 : Int32) (s : HS), f_X12_plain_l2 v1 k26 n v2 s = some t → Ev DDX12_plain miX12_plain NF none NF (hp t) 2 NF [(0, .ref 101), (1, .int v1), (2, .int v2)] [] (hp s) := by
  intro n
  induction n with
  | zero =>
    intro v2 s hf
    have hf : none = some t := hf
    cases hf
  | succ n ih =>
    intro v2 s hf
    exact t_X12_plain_l2b v1 v2  s _ ih _ hk26 hf
def f_X12_plain_l123b (v1 : Int32) (v2 : Int32) (k123 : Int32 → HS → Option HS) (k154 : HS → Option HS) (s : HS) : Option HS :=
  (if 4 ≤ v2 then k154 s else (if v2 = 0 then gd (inb ((4 * v1) + v2) 8) (ltb (sI s 119 (((4 * v1) + v2).toNatClampNeg) 10) fun s25 => ltb (v2 + 1) fun x27 => k123 x27 s25) else gd (inb ((4 * v1) + v2) 8) (ltb (sI s 119 (((4 * v1) + v2).toNatClampNeg) 0) fun s22 => ltb (v2 + 1) fun x24 => k123 x24 s22)))
set_option maxRecDepth 20000 in
set_option maxHeartbeats 2000000 in
theorem t_X12_plain_l123b (v1 : Int32) (v2 : Int32) (s : HS) {t : HS} (k123 : Int32 → HS → Option HS) (hk123 : ∀ (a2 : Int32) (s : HS), k123 a2 s = some t → Ev DDX12_plain miX12_plain NF none NF (hp t) 123 NF [(0, .ref 101), (1, .int v1), (2, .int a2)] [] (hp s)) (k154 : HS → Option HS) (hk154 : ∀ (s : HS), k154 s = some t → Ev DDX12_plain miX12_plain NF none NF (hp t) 154 NF [(0, .ref 101), (1, .int v1)] [] (hp s)) (hf : f_X12_plain_l123b v1 v2 k123 k154 s = some t) : Ev DDX12_plain miX12_plain NF none NF (hp t) 123 NF [(0, .ref 101), (1, .int v1), (2, .int v2)] [] (hp s) := by
  refine e_iload_n dX12_plain_123 2 rfl rfl ?_
  refine e_iconst (x := 4) dX12_plain_124 (by decide) ?_
  refine e_icmp_ge (tgt := 154) dX12_plain_125 (by decide) (fun c20 => ?_) (fun c20 => ?_)
  · have hf := if_t c20 hf
    refine ev_sub [0, 1] rfl ?_
    exact hk154 s hf
  · have hf := if_f c20 hf
    refine e_aload_n dX12_plain_128 0 rfl rfl ?_
    refine e_getR (r := 119) fl_X12_62 dX12_plain_129 so_101 rfl (by decide) ?_
    refine e_iconst (x := 4) dX12_plain_132 (by decide) ?_
    refine e_iload_n dX12_plain_133 1 rfl rfl ?_
    refine e_imul dX12_plain_134 ?_
    refine e_iload_n dX12_plain_135 2 rfl rfl ?_
    refine e_iadd dX12_plain_136 ?_
    refine e_iload_n dX12_plain_137 2 rfl rfl ?_
    refine e_if_ne (tgt := 146) dX12_plain_138 (by decide) (fun c21 => ?_) (fun c21 => ?_)
    · have hf := if_f c21 hf
      refine e_iconst (x := 0) dX12_plain_146 (by decide) ?_
      obtain ⟨g23, hf⟩ := gd_some hf
      obtain ⟨s22, es22, hf⟩ := ltb_s hf
      refine e_iast dX12_plain_147 sa_119 (inb_v g23) (h2 := hp s22) (by rw [es22]; rfl) ?_
      obtain ⟨x24, ex24, hf⟩ := ltb_s hf
      refine e_iinc dX12_plain_148 2 rfl (c9 := 1) (by decide) ex24.symm (by decide) (ls' := [(0, .ref 101), (1, .int v1), (2, .int x24)]) [1, 2, 0] rfl ?_
      refine e_goto (tgt := 123) dX12_plain_151 (by decide) ?_
      exact hk123 x24 s22 hf
    · have hf := if_t c21 hf
      refine e_bipush (x := 10) dX12_plain_141 (by decide) ?_
      refine e_goto (tgt := 147) dX12_plain_143 (by decide) ?_
      obtain ⟨g26, hf⟩ := gd_some hf
      obtain ⟨s25, es25, hf⟩ := ltb_s hf
      refine e_iast dX12_plain_147 sa_119 (inb_v g26) (h2 := hp s25) (by rw [es25]; rfl) ?_
      obtain ⟨x27, ex27, hf⟩ := ltb_s hf
      refine e_iinc dX12_plain_148 2 rfl (c9 := 1) (by decide) ex27.symm (by decide) (ls' := [(0, .ref 101), (1, .int v1), (2, .int x27)]) [1, 2, 0] rfl ?_
      refine e_goto (tgt := 123) dX12_plain_151 (by decide) ?_
      exact hk123 x27 s25 hf
def f_X12_plain_l123 (v1 : Int32) (k154 : HS → Option HS) : Nat → Int32 → HS → Option HS
  | 0, _, _ => none
  | n + 1, v2, s => f_X12_plain_l123b v1 v2 (f_X12_plain_l123 v1 k154 n) k154 s
set_option maxRecDepth 20000 in
set_option maxHeartbeats 2000000 in
theorem t_X12_plain_l123 (v1 : Int32) {t : HS} (k154 : HS → Option HS) (hk154 : ∀ (s : HS), k154 s = some t → Ev DDX12_plain miX12_plain NF none NF (hp t) 154 NF [(0, .ref 101), (1, .int v1)] [] (hp s)) : ∀ (n : Nat) (v2 : Int32) (s : HS), f_X12_plain_l123 v1 k154 n v2 s = some t → Ev DDX12_plain miX12_plain NF none NF (hp t) 123 NF [(0, .ref 101), (1, .int v1), (2, .int v2)] [] (hp s) := by
  intro n
  induction n with
  | zero =>
    intro v2 s hf
    have hf : none = some t := hf
    cases hf
  | succ n ih =>
    intro v2 s hf
    exact t_X12_plain_l123b v1 v2  s _ ih _ hk154 hf
def f_X12_plain (v1 : Int32) (s : HS) : Option HS :=
  f_X12_plain_l2 v1 (fun s5 => gd (inb ((10 * v1) + 3) 20) (ltb (sI s5 103 (((10 * v1) + 3).toNatClampNeg) 600) fun s6 => gd (inb ((10 * v1) + 4) 20) (ltb (sI s6 103 (((10 * v1) + 4).toNatClampNeg) 540) fun s8 => gd (inb ((10 * v1) + 5) 20) (ltb (sI s8 103 (((10 * v1) + 5).toNatClampNeg) 2) fun s10 => gd (inb ((10 * v1) + 6) 20) (ltb (sI s10 103 (((10 * v1) + 6).toNatClampNeg) 10) fun s12 => gd (inb ((10 * v1) + 7) 20) (ltb (sI s12 103 (((10 * v1) + 7).toNatClampNeg) 60) fun s14 => gd (inb ((10 * v1) + 8) 20) (ltb (sI s14 103 (((10 * v1) + 8).toNatClampNeg) 30) fun s16 => gd (inb ((10 * v1) + 9) 20) (ltb (sI s16 103 (((10 * v1) + 9).toNatClampNeg) 5) fun s18 => f_X12_plain_l123 v1 (fun s28 => gd (inb v1 2) (ltb (sI s28 120 (v1.toNatClampNeg) (1000 * v1)) fun s29 => gd (inb v1 2) (ltb (sI s29 121 (v1.toNatClampNeg) (1000 * v1)) fun s31 => some s31))) FU 0 s18)))))))) FU 0 s
set_option maxRecDepth 20000 in
set_option maxHeartbeats 2000000 in
theorem t_X12_plain (v1 : Int32) (s : HS) {t : HS} (hf : f_X12_plain v1 s = some t) : Mt DDX12_plain miX12_plain [.ref 101, .int v1] NF (hp s) none NF (hp t) := by
  refine Mt.of (by decide +kernel) (Nat.le_refl _) (Nat.le_of_ble_eq_true rfl) ?_
  show Ev DDX12_plain miX12_plain NF none NF (hp t) 0 NF [(0, .ref 101), (1, .int v1)] [] (hp s)
  unfold f_X12_plain at hf
  refine e_iconst (x := 0) dX12_plain_0 (by decide) ?_
  refine e_istore_n dX12_plain_1 rfl (by decide) rfl (ls' := [(0, .ref 101), (1, .int v1), (2, .int 0)]) [1, 2, 0] rfl ?_
  refine t_X12_plain_l2 v1 _ ?_ FU 0 s hf
  · intro s5 hf
    refine e_aload_n dX12_plain_26 0 rfl rfl ?_
    refine e_getR (r := 103) fl_X12_13 dX12_plain_27 so_101 rfl (by decide) ?_
    refine e_bipush (x := 10) dX12_plain_30 (by decide) ?_
    refine e_iload_n dX12_plain_32 1 rfl rfl ?_
    refine e_imul dX12_plain_33 ?_
    refine e_iconst (x := 3) dX12_plain_34 (by decide) ?_
    refine e_iadd dX12_plain_35 ?_
    refine e_sipush (x := 600) dX12_plain_36 (by decide) ?_
    obtain ⟨g7, hf⟩ := gd_some hf
    obtain ⟨s6, es6, hf⟩ := ltb_s hf
    refine e_iast dX12_plain_39 sa_103 (inb_v g7) (h2 := hp s6) (by rw [es6]; rfl) ?_
    refine e_aload_n dX12_plain_40 0 rfl rfl ?_
    refine e_getR (r := 103) fl_X12_13 dX12_plain_41 so_101 rfl (by decide) ?_
    refine e_bipush (x := 10) dX12_plain_44 (by decide) ?_
    refine e_iload_n dX12_plain_46 1 rfl rfl ?_
    refine e_imul dX12_plain_47 ?_
    refine e_iconst (x := 4) dX12_plain_48 (by decide) ?_
    refine e_iadd dX12_plain_49 ?_
    refine e_sipush (x := 540) dX12_plain_50 (by decide) ?_
    obtain ⟨g9, hf⟩ := gd_some hf
    obtain ⟨s8, es8, hf⟩ := ltb_s hf
    refine e_iast dX12_plain_53 sa_103 (inb_v g9) (h2 := hp s8) (by rw [es8]; rfl) ?_
    refine e_aload_n dX12_plain_54 0 rfl rfl ?_
    refine e_getR (r := 103) fl_X12_13 dX12_plain_55 so_101 rfl (by decide) ?_
    refine e_bipush (x := 10) dX12_plain_58 (by decide) ?_
    refine e_iload_n dX12_plain_60 1 rfl rfl ?_
    refine e_imul dX12_plain_61 ?_
    refine e_iconst (x := 5) dX12_plain_62 (by decide) ?_
    refine e_iadd dX12_plain_63 ?_
    refine e_iconst (x := 2) dX12_plain_64 (by decide) ?_
    obtain ⟨g11, hf⟩ := gd_some hf
    obtain ⟨s10, es10, hf⟩ := ltb_s hf
    refine e_iast dX12_plain_65 sa_103 (inb_v g11) (h2 := hp s10) (by rw [es10]; rfl) ?_
    refine e_aload_n dX12_plain_66 0 rfl rfl ?_
    refine e_getR (r := 103) fl_X12_13 dX12_plain_67 so_101 rfl (by decide) ?_
    refine e_bipush (x := 10) dX12_plain_70 (by decide) ?_
    refine e_iload_n dX12_plain_72 1 rfl rfl ?_
    refine e_imul dX12_plain_73 ?_
    refine e_bipush (x := 6) dX12_plain_74 (by decide) ?_
    refine e_iadd dX12_plain_76 ?_
    refine e_bipush (x := 10) dX12_plain_77 (by decide) ?_
    obtain ⟨g13, hf⟩ := gd_some hf
    obtain ⟨s12, es12, hf⟩ := ltb_s hf
    refine e_iast dX12_plain_79 sa_103 (inb_v g13) (h2 := hp s12) (by rw [es12]; rfl) ?_
    refine e_aload_n dX12_plain_80 0 rfl rfl ?_
    refine e_getR (r := 103) fl_X12_13 dX12_plain_81 so_101 rfl (by decide) ?_
    refine e_bipush (x := 10) dX12_plain_84 (by decide) ?_
    refine e_iload_n dX12_plain_86 1 rfl rfl ?_
    refine e_imul dX12_plain_87 ?_
    refine e_bipush (x := 7) dX12_plain_88 (by decide) ?_
    refine e_iadd dX12_plain_90 ?_
    refine e_bipush (x := 60) dX12_plain_91 (by decide) ?_
    obtain ⟨g15, hf⟩ := gd_some hf
    obtain ⟨s14, es14, hf⟩ := ltb_s hf
    refine e_iast dX12_plain_93 sa_103 (inb_v g15) (h2 := hp s14) (by rw [es14]; rfl) ?_
    refine e_aload_n dX12_plain_94 0 rfl rfl ?_
    refine e_getR (r := 103) fl_X12_13 dX12_plain_95 so_101 rfl (by decide) ?_
    refine e_bipush (x := 10) dX12_plain_98 (by decide) ?_
    refine e_iload_n dX12_plain_100 1 rfl rfl ?_
    refine e_imul dX12_plain_101 ?_
    refine e_bipush (x := 8) dX12_plain_102 (by decide) ?_
    refine e_iadd dX12_plain_104 ?_
    refine e_bipush (x := 30) dX12_plain_105 (by decide) ?_
    obtain ⟨g17, hf⟩ := gd_some hf
    obtain ⟨s16, es16, hf⟩ := ltb_s hf
    refine e_iast dX12_plain_107 sa_103 (inb_v g17) (h2 := hp s16) (by rw [es16]; rfl) ?_
    refine e_aload_n dX12_plain_108 0 rfl rfl ?_
    refine e_getR (r := 103) fl_X12_13 dX12_plain_109 so_101 rfl (by decide) ?_
    refine e_bipush (x := 10) dX12_plain_112 (by decide) ?_
    refine e_iload_n dX12_plain_114 1 rfl rfl ?_
    refine e_imul dX12_plain_115 ?_
    refine e_bipush (x := 9) dX12_plain_116 (by decide) ?_
    refine e_iadd dX12_plain_118 ?_
    refine e_iconst (x := 5) dX12_plain_119 (by decide) ?_
    obtain ⟨g19, hf⟩ := gd_some hf
    obtain ⟨s18, es18, hf⟩ := ltb_s hf
    refine e_iast dX12_plain_120 sa_103 (inb_v g19) (h2 := hp s18) (by rw [es18]; rfl) ?_
    refine e_iconst (x := 0) dX12_plain_121 (by decide) ?_
    refine e_istore_n dX12_plain_122 rfl (by decide) rfl (ls' := [(0, .ref 101), (1, .int v1), (2, .int 0)]) [1, 2, 0] rfl ?_
    refine t_X12_plain_l123 v1 _ ?_ FU 0 s18 hf
    · intro s28 hf
      refine e_aload_n dX12_plain_154 0 rfl rfl ?_
      refine e_getR (r := 120) fl_X12_65 dX12_plain_155 so_101 rfl (by decide) ?_
      refine e_iload_n dX12_plain_158 1 rfl rfl ?_
      refine e_sipush (x := 1000) dX12_plain_159 (by decide) ?_
      refine e_iload_n dX12_plain_162 1 rfl rfl ?_
      refine e_imul dX12_plain_163 ?_
      obtain ⟨g30, hf⟩ := gd_some hf
      obtain ⟨s29, es29, hf⟩ := ltb_s hf
      refine e_iast dX12_plain_164 sa_120 (inb_v g30) (h2 := hp s29) (by rw [es29]; rfl) ?_
      refine e_aload_n dX12_plain_165 0 rfl rfl ?_
      refine e_getR (r := 121) fl_X12_68 dX12_plain_166 so_101 rfl (by decide) ?_
      refine e_iload_n dX12_plain_169 1 rfl rfl ?_
      refine e_sipush (x := 1000) dX12_plain_170 (by decide) ?_
      refine e_iload_n dX12_plain_173 1 rfl rfl ?_
      refine e_imul dX12_plain_174 ?_
      obtain ⟨g32, hf⟩ := gd_some hf
      obtain ⟨s31, es31, hf⟩ := ltb_s hf
      refine e_iast dX12_plain_175 sa_121 (inb_v g32) (h2 := hp s31) (by rw [es31]; rfl) ?_
      cases hf
      exact e_vret rfl dX12_plain_176
