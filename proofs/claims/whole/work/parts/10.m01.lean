abbrev DDJ0_isLatin1_aae02 : Nat := 1
def f_J0_isLatin1_aae02  (s : HS) : Int32 :=
  (if (1 : Int32) = 0 then 0 else (if (0 : Int32) = 0 then 1 else 0))
set_option maxRecDepth 20000 in
set_option maxHeartbeats 2000000 in
theorem t_J0_isLatin1_aae02  (s : HS) {x : Int32} (hf : f_J0_isLatin1_aae02  s = x) : Mt DDJ0_isLatin1_aae02 miJ0_isLatin1_aae02 [.ref 1101] NF (hp s) (some (.int x)) NF (hp s) := by
  refine Mt.of (by decide +kernel) (Nat.le_refl _) (Nat.le_of_ble_eq_true rfl) ?_
  show Ev DDJ0_isLatin1_aae02 miJ0_isLatin1_aae02 NF (some (.int x)) NF (hp s) 0 NF [(0, .ref 1101)] [] (hp s)
  unfold f_J0_isLatin1_aae02 at hf
  refine e_getsCS dJ0_isLatin1_aae02_0 tl_J0_38 (pc2 := 3) rfl ?_
  refine e_if_eq (tgt := 17) dJ0_isLatin1_aae02_3 (by decide) (pc2 := 6) rfl (fun c1 => ?_) (fun c1 => ?_)
  · have hf := if_t c1 hf
    refine e_iconst (x := 0) dJ0_isLatin1_aae02_17 (by decide) (pc2 := 18) rfl ?_
    cases hf
    exact e_zret (by decide) rfl dJ0_isLatin1_aae02_18
  · have hf := if_f c1 hf
    refine e_aload_n dJ0_isLatin1_aae02_6 0 rfl rfl (pc2 := 7) rfl ?_
    refine e_tcod dJ0_isLatin1_aae02_7 tl_J0_15 (pc2 := 10) rfl ?_
    refine e_if_ne (tgt := 17) dJ0_isLatin1_aae02_10 (by decide) (pc2 := 13) rfl (fun c2 => ?_) (fun c2 => ?_)
    · have hf := if_f c2 hf
      refine e_iconst (x := 0) dJ0_isLatin1_aae02_17 (by decide) (pc2 := 18) rfl ?_
      cases hf
      exact e_zret (by decide) rfl dJ0_isLatin1_aae02_18
    · have hf := if_t c2 hf
      refine e_iconst (x := 1) dJ0_isLatin1_aae02_13 (by decide) (pc2 := 14) rfl ?_
      refine e_goto (tgt := 18) dJ0_isLatin1_aae02_14 (by decide) ?_
      cases hf
      exact e_zret (by decide) rfl dJ0_isLatin1_aae02_18
abbrev DDJ0_coder_7d493 : Nat := 1
def f_J0_coder_7d493  (s : HS) : Int32 :=
  (if (1 : Int32) = 0 then 1 else 0)
set_option maxRecDepth 20000 in
set_option maxHeartbeats 2000000 in
theorem t_J0_coder_7d493  (s : HS) {x : Int32} (hf : f_J0_coder_7d493  s = x) : Mt DDJ0_coder_7d493 miJ0_coder_7d493 [.ref 1101] NF (hp s) (some (.int x)) NF (hp s) := by
  refine Mt.of (by decide +kernel) (Nat.le_refl _) (Nat.le_of_ble_eq_true rfl) ?_
  show Ev DDJ0_coder_7d493 miJ0_coder_7d493 NF (some (.int x)) NF (hp s) 0 NF [(0, .ref 1101)] [] (hp s)
  unfold f_J0_coder_7d493 at hf
  refine e_getsCS dJ0_coder_7d493_0 tl_J0_38 (pc2 := 3) rfl ?_
  refine e_if_eq (tgt := 13) dJ0_coder_7d493_3 (by decide) (pc2 := 6) rfl (fun c1 => ?_) (fun c1 => ?_)
  · have hf := if_t c1 hf
    refine e_iconst (x := 1) dJ0_coder_7d493_13 (by decide) (pc2 := 14) rfl ?_
    cases hf
    exact e_xret (ty := .byte) (by decide) rfl dJ0_coder_7d493_14
  · have hf := if_f c1 hf
    refine e_aload_n dJ0_coder_7d493_6 0 rfl rfl (pc2 := 7) rfl ?_
    refine e_tcod dJ0_coder_7d493_7 tl_J0_15 (pc2 := 10) rfl ?_
    refine e_goto (tgt := 14) dJ0_coder_7d493_10 (by decide) ?_
    cases hf
    exact e_xret (ty := .byte) (by decide) rfl dJ0_coder_7d493_14
abbrev DDJ0_length_8abf5 : Nat := 2
def f_J0_length_8abf5  (s : HS) : Int32 :=
  (8 : Int32) >>> ((f_J0_coder_7d493 s) &&& 31)
set_option maxRecDepth 20000 in
set_option maxHeartbeats 2000000 in
theorem t_J0_length_8abf5  (s : HS) {x : Int32} (hf : f_J0_length_8abf5  s = x) : Mt DDJ0_length_8abf5 miJ0_length_8abf5 [.ref 1101] NF (hp s) (some (.int x)) NF (hp s) := by
  refine Mt.of (by decide +kernel) (Nat.le_refl _) (Nat.le_of_ble_eq_true rfl) ?_
  show Ev DDJ0_length_8abf5 miJ0_length_8abf5 NF (some (.int x)) NF (hp s) 0 NF [(0, .ref 1101)] [] (hp s)
  unfold f_J0_length_8abf5 at hf
  refine e_aload_n dJ0_length_8abf5_0 0 rfl rfl (pc2 := 1) rfl ?_
  refine e_tval dJ0_length_8abf5_1 tl_J0_9 (pc2 := 4) rfl ?_
  refine e_tlen dJ0_length_8abf5_4 (pc2 := 5) rfl ?_
  refine e_aload_n dJ0_length_8abf5_5 0 rfl rfl (pc2 := 6) rfl ?_
  refine e_callVTs (t_J0_coder_7d493  s rfl) dJ0_length_8abf5_6 cv_J0_335 rfl rfl (by decide) (by first | exact Nat.le_of_ble_eq_true rfl | simp [rva_cat, vc_i, vc_r, vc_l, vc_n]) nn0 rfl (pc2 := 9) rfl ?_
  refine e_ishr dJ0_length_8abf5_9 (pc2 := 10) rfl ?_
  cases hf
  exact e_iret rfl dJ0_length_8abf5_10
abbrev DDJ1_canEncode_9a6ad : Nat := 1
def f_J1_canEncode_9a6ad (v0 : Int32) (s : HS) : Int32 :=
  (if v0 < 0 then 0 else (if 255 < v0 then 0 else 1))
set_option maxRecDepth 20000 in
set_option maxHeartbeats 2000000 in
theorem t_J1_canEncode_9a6ad (v0 : Int32) (s : HS) {x : Int32} (hf : f_J1_canEncode_9a6ad  v0 s = x) : Mt DDJ1_canEncode_9a6ad miJ1_canEncode_9a6ad [.int v0] NF (hp s) (some (.int x)) NF (hp s) := by
  refine Mt.of (by decide +kernel) (Nat.le_refl _) (Nat.le_of_ble_eq_true rfl) ?_
  show Ev DDJ1_canEncode_9a6ad miJ1_canEncode_9a6ad NF (some (.int x)) NF (hp s) 0 NF [(0, .int v0)] [] (hp s)
  unfold f_J1_canEncode_9a6ad at hf
  refine e_iload_n dJ1_canEncode_9a6ad_0 0 rfl rfl (pc2 := 1) rfl ?_
  refine e_if_lt (tgt := 15) dJ1_canEncode_9a6ad_1 (by decide) (pc2 := 4) rfl (fun c1 => ?_) (fun c1 => ?_)
  · have hf := if_t c1 hf
    refine e_iconst (x := 0) dJ1_canEncode_9a6ad_15 (by decide) (pc2 := 16) rfl ?_
    cases hf
    exact e_zret (by decide) rfl dJ1_canEncode_9a6ad_16
  · have hf := if_f c1 hf
    refine e_iload_n dJ1_canEncode_9a6ad_4 0 rfl rfl (pc2 := 5) rfl ?_
    refine e_sipush (x := 255) dJ1_canEncode_9a6ad_5 (by decide) (pc2 := 8) rfl ?_
    refine e_icmp_gt (tgt := 15) dJ1_canEncode_9a6ad_8 (by decide) (pc2 := 11) rfl (fun c2 => ?_) (fun c2 => ?_)
    · have hf := if_t c2 hf
      refine e_iconst (x := 0) dJ1_canEncode_9a6ad_15 (by decide) (pc2 := 16) rfl ?_
      cases hf
      exact e_zret (by decide) rfl dJ1_canEncode_9a6ad_16
    · have hf := if_f c2 hf
      refine e_iconst (x := 1) dJ1_canEncode_9a6ad_11 (by decide) (pc2 := 12) rfl ?_
      refine e_goto (tgt := 16) dJ1_canEncode_9a6ad_12 (by decide) ?_
      cases hf
      exact e_zret (by decide) rfl dJ1_canEncode_9a6ad_16
abbrev DDJ1_indexOfChar_4cfef : Nat := 1
def f_J1_indexOfChar_4cfef_l7b (v3 : Int32) (v4 : Int32) (v5 : Int32) (k7 : Int32 → Option Int32) (s : HS) : Option Int32 :=
  (if v3 ≤ v5 then some (-1) else gd (inb v5 8) ((if (sgnL.getD (v5 : Int32).toNatClampNeg 0) = v4 then some v5 else ltb (v5 + 1) fun x5 => k7 x5)))
set_option maxRecDepth 20000 in
set_option maxHeartbeats 2000000 in
theorem t_J1_indexOfChar_4cfef_l7b (v3 : Int32) (v4 : Int32) (v5 : Int32) (s : HS) {x : Int32} (k7 : Int32 → Option Int32) (hk7 : ∀ (a5 : Int32), k7 a5 = some x → Ev DDJ1_indexOfChar_4cfef miJ1_indexOfChar_4cfef NF (some (.int x)) NF (hp s) 7 NF [(0, .ref 1102), (3, .int v3), (4, .int v4), (5, .int a5)] [] (hp s)) (hf : f_J1_indexOfChar_4cfef_l7b v3 v4 v5 k7 s = some x) : Ev DDJ1_indexOfChar_4cfef miJ1_indexOfChar_4cfef NF (some (.int x)) NF (hp s) 7 NF [(0, .ref 1102), (3, .int v3), (4, .int v4), (5, .int v5)] [] (hp s) := by
  refine e_iload dJ1_indexOfChar_4cfef_7 3 rfl (pc2 := 9) rfl ?_
  refine e_iload_n dJ1_indexOfChar_4cfef_9 1 rfl rfl (pc2 := 10) rfl ?_
  refine e_icmp_ge (tgt := 31) dJ1_indexOfChar_4cfef_10 (by decide) (pc2 := 13) rfl (fun c2 => ?_) (fun c2 => ?_)
  · have hf := if_t c2 hf
    refine e_iconst (x := (-1)) dJ1_indexOfChar_4cfef_31 (by decide) (pc2 := 32) rfl ?_
    cases hf
    exact e_iret rfl dJ1_indexOfChar_4cfef_32
  · have hf := if_f c2 hf
    refine e_aload_n dJ1_indexOfChar_4cfef_13 0 rfl rfl (pc2 := 14) rfl ?_
    refine e_iload dJ1_indexOfChar_4cfef_14 3 rfl (pc2 := 16) rfl ?_
    obtain ⟨g3, hf⟩ := gd_some hf
    refine e_tbald dJ1_indexOfChar_4cfef_16 (inb_v g3) (pc2 := 17) rfl ?_
    refine e_iload dJ1_indexOfChar_4cfef_17 2 rfl (pc2 := 19) rfl ?_
    refine e_icmp_ne (tgt := 25) dJ1_indexOfChar_4cfef_19 (by decide) (pc2 := 22) rfl (fun c4 => ?_) (fun c4 => ?_)
    · have hf := if_f c4 hf
      obtain ⟨x5, ex5, hf⟩ := ltb_s hf
      refine e_iinc dJ1_indexOfChar_4cfef_25 3 rfl (c9 := 1) (by decide) ex5.symm (by decide) (ls' := [(0, .ref 1102), (3, .int v3), (4, .int v4), (5, .int x5)]) [1, 2, 3, 0] rfl (pc2 := 28) rfl ?_
      refine e_goto (tgt := 7) dJ1_indexOfChar_4cfef_28 (by decide) ?_
      exact hk7 x5 hf
    · have hf := if_t c4 hf
      refine e_iload dJ1_indexOfChar_4cfef_22 3 rfl (pc2 := 24) rfl ?_
      cases hf
      exact e_iret rfl dJ1_indexOfChar_4cfef_24
def f_J1_indexOfChar_4cfef_l7 (v3 : Int32) (v4 : Int32) (s : HS) : Nat → Int32 → Option Int32
  | 0, _ => none
  | n + 1, v5 => f_J1_indexOfChar_4cfef_l7b v3 v4 v5 (f_J1_indexOfChar_4cfef_l7 v3 v4 s n)  s
set_option maxRecDepth 20000 in
set_option maxHeartbeats 2000000 in
theorem t_J1_indexOfChar_4cfef_l7 (v3 : Int32) (v4 : Int32) (s : HS) {x : Int32}  : ∀ (n : Nat) (v5 : Int32), f_J1_indexOfChar_4cfef_l7 v3 v4 s n v5 = some x → Ev DDJ1_indexOfChar_4cfef miJ1_indexOfChar_4cfef NF (some (.int x)) NF (hp s) 7 NF [(0, .ref 1102), (3, .int v3), (4, .int v4), (5, .int v5)] [] (hp s) := by
  intro n
  induction n with
  | zero =>
    intro v5 hf
    have hf : none = some x := hf
    cases hf
  | succ n ih =>
    intro v5 hf
    exact t_J1_indexOfChar_4cfef_l7b v3 v4 v5  s _ ih  hf
def f_J1_indexOfChar_4cfef (v1 : Int32) (v2 : Int32) (v3 : Int32) (s : HS) : Option Int32 :=
  ltb ((v1 : Int32).toInt8.toInt32) fun x1 => f_J1_indexOfChar_4cfef_l7 v3 x1 s FU v2
set_option maxRecDepth 20000 in
set_option maxHeartbeats 2000000 in
theorem t_J1_indexOfChar_4cfef (v1 : Int32) (v2 : Int32) (v3 : Int32) (s : HS) {x : Int32} (hf : f_J1_indexOfChar_4cfef  v1 v2 v3 s = some x) : Mt DDJ1_indexOfChar_4cfef miJ1_indexOfChar_4cfef [.ref 1102, .int v1, .int v2, .int v3] NF (hp s) (some (.int x)) NF (hp s) := by
  refine Mt.of (by decide +kernel) (Nat.le_refl _) (Nat.le_of_ble_eq_true rfl) ?_
  show Ev DDJ1_indexOfChar_4cfef miJ1_indexOfChar_4cfef NF (some (.int x)) NF (hp s) 0 NF [(0, .ref 1102), (1, .int v1), (2, .int v2), (3, .int v3)] [] (hp s)
  unfold f_J1_indexOfChar_4cfef at hf
  refine e_iload_n dJ1_indexOfChar_4cfef_0 1 rfl rfl (pc2 := 1) rfl ?_
  refine e_i2b dJ1_indexOfChar_4cfef_1 (pc2 := 2) rfl ?_
  obtain ⟨x1, ex1, hf⟩ := ltb_s hf
  refine e_istore dJ1_indexOfChar_4cfef_2 (by decide) ex1.symm (ls' := [(0, .ref 1102), (2, .int v2), (3, .int v3), (4, .int x1)]) [1, 3, 4, 0] rfl (pc2 := 4) rfl ?_
  refine e_iload_n dJ1_indexOfChar_4cfef_4 1 rfl rfl (pc2 := 5) rfl ?_
  refine e_istore dJ1_indexOfChar_4cfef_5 (by decide) rfl (ls' := [(0, .ref 1102), (3, .int v3), (4, .int x1), (5, .int v2)]) [1, 3, 4, 0] rfl (pc2 := 7) rfl ?_
  refine t_J1_indexOfChar_4cfef_l7 v3 x1 s FU v2 hf
abbrev DDJ1_indexOf_4cfef : Nat := 2
def f_J1_indexOf_4cfef (v1 : Int32) (v2 : Int32) (v3 : Int32) (s : HS) : Option Int32 :=
  (if (f_J1_canEncode_9a6ad v1 s) = 0 then some (-1) else ltb (imax v2 0) fun x2 => ltb (imin v3 8) fun x3 => (if x2 < x3 then bnd (f_J1_indexOfChar_4cfef v1 x2 x3 s) fun y5 => some y5 else some (-1)))
set_option maxRecDepth 20000 in
set_option maxHeartbeats 2000000 in
theorem t_J1_indexOf_4cfef (v1 : Int32) (v2 : Int32) (v3 : Int32) (s : HS) {x : Int32} (hf : f_J1_indexOf_4cfef  v1 v2 v3 s = some x) : Mt DDJ1_indexOf_4cfef miJ1_indexOf_4cfef [.ref 1102, .int v1, .int v2, .int v3] NF (hp s) (some (.int x)) NF (hp s) := by
  refine Mt.of (by decide +kernel) (Nat.le_refl _) (Nat.le_of_ble_eq_true rfl) ?_
  show Ev DDJ1_indexOf_4cfef miJ1_indexOf_4cfef NF (some (.int x)) NF (hp s) 0 NF [(0, .ref 1102), (1, .int v1), (2, .int v2), (3, .int v3)] [] (hp s)
  unfold f_J1_indexOf_4cfef at hf
  refine e_iload_n dJ1_indexOf_4cfef_0 1 rfl rfl (pc2 := 1) rfl ?_
  refine e_callSs (t_J1_canEncode_9a6ad v1 s rfl) dJ1_indexOf_4cfef_1 cs_J1_88 rfl (by decide) (by first | exact Nat.le_of_ble_eq_true rfl | simp [rva_cat, vc_i, vc_r, vc_l, vc_n]) nn0 rfl (pc2 := 4) rfl ?_
  refine e_if_ne (tgt := 9) dJ1_indexOf_4cfef_4 (by decide) (pc2 := 7) rfl (fun c1 => ?_) (fun c1 => ?_)
  · have hf := if_f c1 hf
    refine e_iload_n dJ1_indexOf_4cfef_9 2 rfl rfl (pc2 := 10) rfl ?_
    refine e_iconst (x := 0) dJ1_indexOf_4cfef_10 (by decide) (pc2 := 11) rfl ?_
    refine e_mmax dJ1_indexOf_4cfef_11 mm_J1_92 (by decide) nn0 (by first | exact Nat.le_of_ble_eq_true rfl | simp [rva_cat, vc_i, vc_r, vc_l, vc_n]) (pc2 := 14) rfl ?_
    obtain ⟨x2, ex2, hf⟩ := ltb_s hf
    refine e_istore_n dJ1_indexOf_4cfef_14 rfl (by decide) ex2.symm (ls' := [(0, .ref 1102), (1, .int v1), (2, .int x2), (3, .int v3)]) [1, 2, 0, 3] rfl (pc2 := 15) rfl ?_
    refine e_iload_n dJ1_indexOf_4cfef_15 3 rfl rfl (pc2 := 16) rfl ?_
    refine e_aload_n dJ1_indexOf_4cfef_16 0 rfl rfl (pc2 := 17) rfl ?_
    refine e_tlen dJ1_indexOf_4cfef_17 (pc2 := 18) rfl ?_
    refine e_mmin dJ1_indexOf_4cfef_18 mm_J1_38 (by decide) nn0 (by first | exact Nat.le_of_ble_eq_true rfl | simp [rva_cat, vc_i, vc_r, vc_l, vc_n]) (pc2 := 21) rfl ?_
    obtain ⟨x3, ex3, hf⟩ := ltb_s hf
    refine e_istore_n dJ1_indexOf_4cfef_21 rfl (by decide) ex3.symm (ls' := [(0, .ref 1102), (1, .int v1), (2, .int x2), (3, .int x3)]) [1, 2, 3, 0] rfl (pc2 := 22) rfl ?_
    refine e_iload_n dJ1_indexOf_4cfef_22 2 rfl rfl (pc2 := 23) rfl ?_
    refine e_iload_n dJ1_indexOf_4cfef_23 3 rfl rfl (pc2 := 24) rfl ?_
    refine e_icmp_lt (tgt := 29) dJ1_indexOf_4cfef_24 (by decide) (pc2 := 27) rfl (fun c4 => ?_) (fun c4 => ?_)
    · have hf := if_t c4 hf
      refine e_aload_n dJ1_indexOf_4cfef_29 0 rfl rfl (pc2 := 30) rfl ?_
      refine e_iload_n dJ1_indexOf_4cfef_30 1 rfl rfl (pc2 := 31) rfl ?_
      refine e_iload_n dJ1_indexOf_4cfef_31 2 rfl rfl (pc2 := 32) rfl ?_
      refine e_iload_n dJ1_indexOf_4cfef_32 3 rfl rfl (pc2 := 33) rfl ?_
      obtain ⟨y5, hy5, hf⟩ := bnd_s hf
      refine e_callSs (t_J1_indexOfChar_4cfef v1 x2 x3 s hy5) dJ1_indexOf_4cfef_33 cs_J1_95 rfl (by decide) (by first | exact Nat.le_of_ble_eq_true rfl | simp [rva_cat, vc_i, vc_r, vc_l, vc_n]) nn0 rfl (pc2 := 36) rfl ?_
      cases hf
      exact e_iret rfl dJ1_indexOf_4cfef_36
    · have hf := if_f c4 hf
      refine e_iconst (x := (-1)) dJ1_indexOf_4cfef_27 (by decide) (pc2 := 28) rfl ?_
      cases hf
      exact e_iret rfl dJ1_indexOf_4cfef_28
  · have hf := if_t c1 hf
    refine e_iconst (x := (-1)) dJ1_indexOf_4cfef_7 (by decide) (pc2 := 8) rfl ?_
    cases hf
    exact e_iret rfl dJ1_indexOf_4cfef_8
abbrev DDJ0_indexOf_7cf53 : Nat := 3
def f_J0_indexOf_7cf53 (v1 : Int32) (v2 : Int32) (s : HS) : Option Int32 :=
  (if (f_J0_isLatin1_aae02 s) = 0 then none else bnd (f_J1_indexOf_4cfef v1 v2 (f_J0_length_8abf5 s) s) fun y2 => some y2)
set_option maxRecDepth 20000 in
set_option maxHeartbeats 2000000 in
theorem t_J0_indexOf_7cf53 (v1 : Int32) (v2 : Int32) (s : HS) {x : Int32} (hf : f_J0_indexOf_7cf53  v1 v2 s = some x) : Mt DDJ0_indexOf_7cf53 miJ0_indexOf_7cf53 [.ref 1101, .int v1, .int v2] NF (hp s) (some (.int x)) NF (hp s) := by
  refine Mt.of (by decide +kernel) (Nat.le_refl _) (Nat.le_of_ble_eq_true rfl) ?_
  show Ev DDJ0_indexOf_7cf53 miJ0_indexOf_7cf53 NF (some (.int x)) NF (hp s) 0 NF [(0, .ref 1101), (1, .int v1), (2, .int v2)] [] (hp s)
  unfold f_J0_indexOf_7cf53 at hf
  refine e_aload_n dJ0_indexOf_7cf53_0 0 rfl rfl (pc2 := 1) rfl ?_
  refine e_callVTs (t_J0_isLatin1_aae02  s rfl) dJ0_indexOf_7cf53_1 cv_J0_492 rfl rfl (by decide) (by first | exact Nat.le_of_ble_eq_true rfl | simp [rva_cat, vc_i, vc_r, vc_l, vc_n]) nn0 rfl (pc2 := 4) rfl ?_
  refine e_if_eq (tgt := 23) dJ0_indexOf_7cf53_4 (by decide) (pc2 := 7) rfl (fun c1 => ?_) (fun c1 => ?_)
  · have hf := if_t c1 hf
    refine e_aload_n dJ0_indexOf_7cf53_23 0 rfl rfl (pc2 := 24) rfl ?_
    refine e_tval dJ0_indexOf_7cf53_24 tl_J0_9 (pc2 := 27) rfl ?_
    refine e_iload_n dJ0_indexOf_7cf53_27 1 rfl rfl (pc2 := 28) rfl ?_
    refine e_iload_n dJ0_indexOf_7cf53_28 2 rfl rfl (pc2 := 29) rfl ?_
    refine e_aload_n dJ0_indexOf_7cf53_29 0 rfl rfl (pc2 := 30) rfl ?_
    refine e_callVTs (t_J0_length_8abf5  s rfl) dJ0_indexOf_7cf53_30 cv_J0_505 rfl rfl (by decide) (by first | exact Nat.le_of_ble_eq_true rfl | simp [rva_cat, vc_i, vc_r, vc_l, vc_n]) nn0 rfl (pc2 := 33) rfl ?_
    cases hf
  · have hf := if_f c1 hf
    refine e_aload_n dJ0_indexOf_7cf53_7 0 rfl rfl (pc2 := 8) rfl ?_
    refine e_tval dJ0_indexOf_7cf53_8 tl_J0_9 (pc2 := 11) rfl ?_
    refine e_iload_n dJ0_indexOf_7cf53_11 1 rfl rfl (pc2 := 12) rfl ?_
    refine e_iload_n dJ0_indexOf_7cf53_12 2 rfl rfl (pc2 := 13) rfl ?_
    refine e_aload_n dJ0_indexOf_7cf53_13 0 rfl rfl (pc2 := 14) rfl ?_
    refine e_callVTs (t_J0_length_8abf5  s rfl) dJ0_indexOf_7cf53_14 cv_J0_505 rfl rfl (by decide) (by first | exact Nat.le_of_ble_eq_true rfl | simp [rva_cat, vc_i, vc_r, vc_l, vc_n]) nn0 rfl (pc2 := 17) rfl ?_
    obtain ⟨y2, hy2, hf⟩ := bnd_s hf
    refine e_callSs (t_J1_indexOf_4cfef v1 v2 (f_J0_length_8abf5 s) s hy2) dJ0_indexOf_7cf53_17 cs_J0_637 rfl (by decide) (by first | exact Nat.le_of_ble_eq_true rfl | simp [rva_cat, vc_i, vc_r, vc_l, vc_n]) nn0 rfl (pc2 := 20) rfl ?_
    refine e_goto (tgt := 36) dJ0_indexOf_7cf53_20 (by decide) ?_
    cases hf
    exact e_iret rfl dJ0_indexOf_7cf53_36
abbrev DDJ0_indexOf_0f7a4 : Nat := 4
def f_J0_indexOf_0f7a4 (v1 : Int32) (s : HS) : Option Int32 :=
  bnd (f_J0_indexOf_7cf53 v1 0 s) fun y1 => some y1
set_option maxRecDepth 20000 in
set_option maxHeartbeats 2000000 in
theorem t_J0_indexOf_0f7a4 (v1 : Int32) (s : HS) {x : Int32} (hf : f_J0_indexOf_0f7a4  v1 s = some x) : Mt DDJ0_indexOf_0f7a4 miJ0_indexOf_0f7a4 [.ref 1101, .int v1] NF (hp s) (some (.int x)) NF (hp s) := by
  refine Mt.of (by decide +kernel) (Nat.le_refl _) (Nat.le_of_ble_eq_true rfl) ?_
  show Ev DDJ0_indexOf_0f7a4 miJ0_indexOf_0f7a4 NF (some (.int x)) NF (hp s) 0 NF [(0, .ref 1101), (1, .int v1)] [] (hp s)
  unfold f_J0_indexOf_0f7a4 at hf
  refine e_aload_n dJ0_indexOf_0f7a4_0 0 rfl rfl (pc2 := 1) rfl ?_
  refine e_iload_n dJ0_indexOf_0f7a4_1 1 rfl rfl (pc2 := 2) rfl ?_
  refine e_iconst (x := 0) dJ0_indexOf_0f7a4_2 (by decide) (pc2 := 3) rfl ?_
  obtain ⟨y1, hy1, hf⟩ := bnd_s hf
  refine e_callVTs (t_J0_indexOf_7cf53 v1 0 s hy1) dJ0_indexOf_0f7a4_3 cv_J0_633 rfl rfl (by decide) (by first | exact Nat.le_of_ble_eq_true rfl | simp [rva_cat, vc_i, vc_r, vc_l, vc_n]) nn0 rfl (pc2 := 6) rfl ?_
  cases hf
  exact e_iret rfl dJ0_indexOf_0f7a4_6
abbrev DDX8_stepNumber : Nat := 1
def f_X8_stepNumber_l5b (k5 : HS → Option HS) (k81 : HS → Option HS) (s : HS) : Option HS :=
  (if (s.1 36 1) ≤ (s.1 36 3) then k81 s else gd (inb (s.1 36 3) 1000) ((if (s.1 37 (s.1 36 3).toNatClampNeg) < 48 then k81 s else gd (inb (s.1 36 3) 1000) ((if 57 < (s.1 37 (s.1 36 3).toNatClampNeg) then k81 s else gd (inb (s.1 36 3) 1000) (ltb (sI s 36 6 (((s.1 36 6) * 10) + ((s.1 37 (s.1 36 3).toNatClampNeg) - 48))) fun s8 => ltb (sI s8 36 3 ((s8.1 36 3) + 1)) fun s9 => k5 s9))))))
set_option maxRecDepth 20000 in
set_option maxHeartbeats 2000000 in
theorem t_X8_stepNumber_l5b  (s : HS) {t : HS} (k5 : HS → Option HS) (hk5 : ∀ (s : HS), k5 s = some t → Ev DDX8_stepNumber miX8_stepNumber NF none NF (hp t) 5 NF [(0, .ref 36)] [] (hp s)) (k81 : HS → Option HS) (hk81 : ∀ (s : HS), k81 s = some t → Ev DDX8_stepNumber miX8_stepNumber NF none NF (hp t) 81 NF [(0, .ref 36)] [] (hp s)) (hf : f_X8_stepNumber_l5b k5 k81 s = some t) : Ev DDX8_stepNumber miX8_stepNumber NF none NF (hp t) 5 NF [(0, .ref 36)] [] (hp s) := by
  refine e_aload_n dX8_stepNumber_5 0 rfl rfl (pc2 := 6) rfl ?_
  refine e_getI fl_X8_24 dX8_stepNumber_6 so_36 (by decide) (pc2 := 9) rfl ?_
  refine e_aload_n dX8_stepNumber_9 0 rfl rfl (pc2 := 10) rfl ?_
  refine e_getI fl_X8_17 dX8_stepNumber_10 so_36 (by decide) (pc2 := 13) rfl ?_
  refine e_icmp_ge (tgt := 81) dX8_stepNumber_13 (by decide) (pc2 := 16) rfl (fun c2 => ?_) (fun c2 => ?_)
  · have hf := if_t c2 hf
    exact hk81 s hf
  · have hf := if_f c2 hf
    refine e_aload_n dX8_stepNumber_16 0 rfl rfl (pc2 := 17) rfl ?_
    refine e_getR (r := 37) fl_X8_9 dX8_stepNumber_17 so_36 (rs_36_0 s.2.2) (by decide) (pc2 := 20) rfl ?_
    refine e_aload_n dX8_stepNumber_20 0 rfl rfl (pc2 := 21) rfl ?_
    refine e_getI fl_X8_24 dX8_stepNumber_21 so_36 (by decide) (pc2 := 24) rfl ?_
    obtain ⟨g3, hf⟩ := gd_some hf
    refine e_cald dX8_stepNumber_24 sa_37 (inb_v g3) (pc2 := 25) rfl ?_
    refine e_bipush (x := 48) dX8_stepNumber_25 (by decide) (pc2 := 27) rfl ?_
    refine e_icmp_lt (tgt := 81) dX8_stepNumber_27 (by decide) (pc2 := 30) rfl (fun c4 => ?_) (fun c4 => ?_)
    · have hf := if_t c4 hf
      exact hk81 s hf
    · have hf := if_f c4 hf
      refine e_aload_n dX8_stepNumber_30 0 rfl rfl (pc2 := 31) rfl ?_
      refine e_getR (r := 37) fl_X8_9 dX8_stepNumber_31 so_36 (rs_36_0 s.2.2) (by decide) (pc2 := 34) rfl ?_
      refine e_aload_n dX8_stepNumber_34 0 rfl rfl (pc2 := 35) rfl ?_
      refine e_getI fl_X8_24 dX8_stepNumber_35 so_36 (by decide) (pc2 := 38) rfl ?_
      obtain ⟨g5, hf⟩ := gd_some hf
      refine e_cald dX8_stepNumber_38 sa_37 (inb_v g5) (pc2 := 39) rfl ?_
      refine e_bipush (x := 57) dX8_stepNumber_39 (by decide) (pc2 := 41) rfl ?_
      refine e_icmp_gt (tgt := 81) dX8_stepNumber_41 (by decide) (pc2 := 44) rfl (fun c6 => ?_) (fun c6 => ?_)
      · have hf := if_t c6 hf
        exact hk81 s hf
      · have hf := if_f c6 hf
        refine e_aload_n dX8_stepNumber_44 0 rfl rfl (pc2 := 45) rfl ?_
        refine e_aload_n dX8_stepNumber_45 0 rfl rfl (pc2 := 46) rfl ?_
        refine e_getI fl_X8_71 dX8_stepNumber_46 so_36 (by decide) (pc2 := 49) rfl ?_
        refine e_bipush (x := 10) dX8_stepNumber_49 (by decide) (pc2 := 51) rfl ?_
        refine e_imul dX8_stepNumber_51 (pc2 := 52) rfl ?_
        refine e_aload_n dX8_stepNumber_52 0 rfl rfl (pc2 := 53) rfl ?_
        refine e_getR (r := 37) fl_X8_9 dX8_stepNumber_53 so_36 (rs_36_0 s.2.2) (by decide) (pc2 := 56) rfl ?_
        refine e_aload_n dX8_stepNumber_56 0 rfl rfl (pc2 := 57) rfl ?_
        refine e_getI fl_X8_24 dX8_stepNumber_57 so_36 (by decide) (pc2 := 60) rfl ?_
        obtain ⟨g7, hf⟩ := gd_some hf
        refine e_cald dX8_stepNumber_60 sa_37 (inb_v g7) (pc2 := 61) rfl ?_
        refine e_bipush (x := 48) dX8_stepNumber_61 (by decide) (pc2 := 63) rfl ?_
        refine e_isub dX8_stepNumber_63 (pc2 := 64) rfl ?_
        refine e_iadd dX8_stepNumber_64 (pc2 := 65) rfl ?_
        obtain ⟨s8, es8, hf⟩ := ltb_s hf
        refine e_putI fl_X8_71 dX8_stepNumber_65 so_36 fn_8_6 (h2 := hp s8) (by rw [es8]; rfl) (pc2 := 68) rfl ?_
        refine e_aload_n dX8_stepNumber_68 0 rfl rfl (pc2 := 69) rfl ?_
        refine e_dup dX8_stepNumber_69 rfl (pc2 := 70) rfl ?_
        refine e_getI fl_X8_24 dX8_stepNumber_70 so_36 (by decide) (pc2 := 73) rfl ?_
        refine e_iconst (x := 1) dX8_stepNumber_73 (by decide) (pc2 := 74) rfl ?_
        refine e_iadd dX8_stepNumber_74 (pc2 := 75) rfl ?_
        obtain ⟨s9, es9, hf⟩ := ltb_s hf
        refine e_putI fl_X8_24 dX8_stepNumber_75 so_36 fn_8_3 (h2 := hp s9) (by rw [es9]; rfl) (pc2 := 78) rfl ?_
        refine e_goto (tgt := 5) dX8_stepNumber_78 (by decide) ?_
        exact hk5 s9 hf
def f_X8_stepNumber_l5 (k81 : HS → Option HS) : Nat → HS → Option HS
  | 0, _ => none
  | n + 1, s => f_X8_stepNumber_l5b  (f_X8_stepNumber_l5 k81 n) k81 s
set_option maxRecDepth 20000 in
set_option maxHeartbeats 2000000 in
theorem t_X8_stepNumber_l5  {t : HS} (k81 : HS → Option HS) (hk81 : ∀ (s : HS), k81 s = some t → Ev DDX8_stepNumber miX8_stepNumber NF none NF (hp t) 81 NF [(0, .ref 36)] [] (hp s)) : ∀ (n : Nat)  (s : HS), f_X8_stepNumber_l5 k81 n s = some t → Ev DDX8_stepNumber miX8_stepNumber NF none NF (hp t) 5 NF [(0, .ref 36)] [] (hp s) := by
  intro n
  induction n with
  | zero =>
    intro s hf
    have hf : none = some t := hf
    cases hf
  | succ n ih =>
    intro s hf
    exact t_X8_stepNumber_l5b   s _ ih _ hk81 hf
def f_X8_stepNumber_j81  (s : HS) : Option HS :=
  (if ((s.1 36 3) - (s.1 36 2)) ≤ 4 then ltb (sI s 36 4 2) fun s12 => some s12 else ltb (sI s 36 4 4) fun s13 => some s13)
set_option maxRecDepth 20000 in
set_option maxHeartbeats 2000000 in
theorem t_X8_stepNumber_j81  (s : HS) {t : HS}  (hf : f_X8_stepNumber_j81 s = some t) : Ev DDX8_stepNumber miX8_stepNumber NF none NF (hp t) 81 NF [(0, .ref 36)] [] (hp s) := by
  refine e_aload_n dX8_stepNumber_81 0 rfl rfl (pc2 := 82) rfl ?_
  refine e_aload_n dX8_stepNumber_82 0 rfl rfl (pc2 := 83) rfl ?_
  refine e_getI fl_X8_24 dX8_stepNumber_83 so_36 (by decide) (pc2 := 86) rfl ?_
  refine e_aload_n dX8_stepNumber_86 0 rfl rfl (pc2 := 87) rfl ?_
  refine e_getI fl_X8_33 dX8_stepNumber_87 so_36 (by decide) (pc2 := 90) rfl ?_
  refine e_isub dX8_stepNumber_90 (pc2 := 91) rfl ?_
  refine e_iconst (x := 4) dX8_stepNumber_91 (by decide) (pc2 := 92) rfl ?_
  refine e_icmp_le (tgt := 99) dX8_stepNumber_92 (by decide) (pc2 := 95) rfl (fun c11 => ?_) (fun c11 => ?_)
  · have hf := if_t c11 hf
    refine e_iconst (x := 2) dX8_stepNumber_99 (by decide) (pc2 := 100) rfl ?_
    obtain ⟨s12, es12, hf⟩ := ltb_s hf
    refine e_putI fl_X8_30 dX8_stepNumber_100 so_36 fn_8_4 (h2 := hp s12) (by rw [es12]; rfl) (pc2 := 103) rfl ?_
    cases hf
    exact e_vret rfl dX8_stepNumber_103
  · have hf := if_f c11 hf
    refine e_iconst (x := 4) dX8_stepNumber_95 (by decide) (pc2 := 96) rfl ?_
    refine e_goto (tgt := 100) dX8_stepNumber_96 (by decide) ?_
    obtain ⟨s13, es13, hf⟩ := ltb_s hf
    refine e_putI fl_X8_30 dX8_stepNumber_100 so_36 fn_8_4 (h2 := hp s13) (by rw [es13]; rfl) (pc2 := 103) rfl ?_
    cases hf
    exact e_vret rfl dX8_stepNumber_103
def f_X8_stepNumber  (s : HS) : Option HS :=
  ltb (sI s 36 6 0) fun s1 => f_X8_stepNumber_l5 (fun s10 => f_X8_stepNumber_j81 s10) FU s1
set_option maxRecDepth 20000 in
set_option maxHeartbeats 2000000 in
theorem t_X8_stepNumber  (s : HS) {t : HS} (hf : f_X8_stepNumber  s = some t) : Mt DDX8_stepNumber miX8_stepNumber [.ref 36] NF (hp s) none NF (hp t) := by
  refine Mt.of (by decide +kernel) (Nat.le_refl _) (Nat.le_of_ble_eq_true rfl) ?_
  show Ev DDX8_stepNumber miX8_stepNumber NF none NF (hp t) 0 NF [(0, .ref 36)] [] (hp s)
  unfold f_X8_stepNumber at hf
  refine e_aload_n dX8_stepNumber_0 0 rfl rfl (pc2 := 1) rfl ?_
  refine e_iconst (x := 0) dX8_stepNumber_1 (by decide) (pc2 := 2) rfl ?_
  obtain ⟨s1, es1, hf⟩ := ltb_s hf
  refine e_putI fl_X8_71 dX8_stepNumber_2 so_36 fn_8_6 (h2 := hp s1) (by rw [es1]; rfl) (pc2 := 5) rfl ?_
  refine t_X8_stepNumber_l5 _ ?_ FU s1 hf
  · intro s10 hf
    exact t_X8_stepNumber_j81 s10 hf
abbrev DDX8_stepWord : Nat := 1
def f_X8_stepWord_l0b (k0 : HS → Option HS) (k80 : HS → Option HS) (s : HS) : Option HS :=
  (if (s.1 36 1) ≤ (s.1 36 3) then k80 s else gd (inb (s.1 36 3) 1000) ((if (s.1 37 (s.1 36 3).toNatClampNeg) < 97 then k80 s else gd (inb (s.1 36 3) 1000) ((if 122 < (s.1 37 (s.1 36 3).toNatClampNeg) then k80 s else gd (inb (s.1 36 3) 1000) (ltb (sL s 36 5 (((s.2.1 36 5) * 32) + ((((s.1 37 (s.1 36 3).toNatClampNeg) - 97) + 1 : Int32).toInt64))) fun s7 => ltb (sI s7 36 3 ((s7.1 36 3) + 1)) fun s8 => k0 s8))))))
set_option maxRecDepth 20000 in
set_option maxHeartbeats 2000000 in
theorem t_X8_stepWord_l0b  (s : HS) {t : HS} (k0 : HS → Option HS) (hk0 : ∀ (s : HS), k0 s = some t → Ev DDX8_stepWord miX8_stepWord NF none NF (hp t) 0 NF [(0, .ref 36)] [] (hp s)) (k80 : HS → Option HS) (hk80 : ∀ (s : HS), k80 s = some t → Ev DDX8_stepWord miX8_stepWord NF none NF (hp t) 80 NF [(0, .ref 36)] [] (hp s)) (hf : f_X8_stepWord_l0b k0 k80 s = some t) : Ev DDX8_stepWord miX8_stepWord NF none NF (hp t) 0 NF [(0, .ref 36)] [] (hp s) := by
  refine e_aload_n dX8_stepWord_0 0 rfl rfl (pc2 := 1) rfl ?_
  refine e_getI fl_X8_24 dX8_stepWord_1 so_36 (by decide) (pc2 := 4) rfl ?_
  refine e_aload_n dX8_stepWord_4 0 rfl rfl (pc2 := 5) rfl ?_
  refine e_getI fl_X8_17 dX8_stepWord_5 so_36 (by decide) (pc2 := 8) rfl ?_
  refine e_icmp_ge (tgt := 80) dX8_stepWord_8 (by decide) (pc2 := 11) rfl (fun c1 => ?_) (fun c1 => ?_)
  · have hf := if_t c1 hf
    exact hk80 s hf
  · have hf := if_f c1 hf
    refine e_aload_n dX8_stepWord_11 0 rfl rfl (pc2 := 12) rfl ?_
    refine e_getR (r := 37) fl_X8_9 dX8_stepWord_12 so_36 (rs_36_0 s.2.2) (by decide) (pc2 := 15) rfl ?_
    refine e_aload_n dX8_stepWord_15 0 rfl rfl (pc2 := 16) rfl ?_
    refine e_getI fl_X8_24 dX8_stepWord_16 so_36 (by decide) (pc2 := 19) rfl ?_
    obtain ⟨g2, hf⟩ := gd_some hf
    refine e_cald dX8_stepWord_19 sa_37 (inb_v g2) (pc2 := 20) rfl ?_
    refine e_bipush (x := 97) dX8_stepWord_20 (by decide) (pc2 := 22) rfl ?_
    refine e_icmp_lt (tgt := 80) dX8_stepWord_22 (by decide) (pc2 := 25) rfl (fun c3 => ?_) (fun c3 => ?_)
    · have hf := if_t c3 hf
      exact hk80 s hf
    · have hf := if_f c3 hf
      refine e_aload_n dX8_stepWord_25 0 rfl rfl (pc2 := 26) rfl ?_
      refine e_getR (r := 37) fl_X8_9 dX8_stepWord_26 so_36 (rs_36_0 s.2.2) (by decide) (pc2 := 29) rfl ?_
      refine e_aload_n dX8_stepWord_29 0 rfl rfl (pc2 := 30) rfl ?_
      refine e_getI fl_X8_24 dX8_stepWord_30 so_36 (by decide) (pc2 := 33) rfl ?_
      obtain ⟨g4, hf⟩ := gd_some hf
      refine e_cald dX8_stepWord_33 sa_37 (inb_v g4) (pc2 := 34) rfl ?_
      refine e_bipush (x := 122) dX8_stepWord_34 (by decide) (pc2 := 36) rfl ?_
      refine e_icmp_gt (tgt := 80) dX8_stepWord_36 (by decide) (pc2 := 39) rfl (fun c5 => ?_) (fun c5 => ?_)
      · have hf := if_t c5 hf
        exact hk80 s hf
      · have hf := if_f c5 hf
        refine e_aload_n dX8_stepWord_39 0 rfl rfl (pc2 := 40) rfl ?_
        refine e_aload_n dX8_stepWord_40 0 rfl rfl (pc2 := 41) rfl ?_
        refine e_getL fl_X8_40 dX8_stepWord_41 so_36 rfl (pc2 := 44) rfl ?_
        refine e_ldc2 dX8_stepWord_44 lk_X8_62 (pc2 := 47) rfl ?_
        refine e_lmul dX8_stepWord_47 (pc2 := 48) rfl ?_
        refine e_aload_n dX8_stepWord_48 0 rfl rfl (pc2 := 49) rfl ?_
        refine e_getR (r := 37) fl_X8_9 dX8_stepWord_49 so_36 (rs_36_0 s.2.2) (by decide) (pc2 := 52) rfl ?_
        refine e_aload_n dX8_stepWord_52 0 rfl rfl (pc2 := 53) rfl ?_
        refine e_getI fl_X8_24 dX8_stepWord_53 so_36 (by decide) (pc2 := 56) rfl ?_
        obtain ⟨g6, hf⟩ := gd_some hf
        refine e_cald dX8_stepWord_56 sa_37 (inb_v g6) (pc2 := 57) rfl ?_
        refine e_bipush (x := 97) dX8_stepWord_57 (by decide) (pc2 := 59) rfl ?_
        refine e_isub dX8_stepWord_59 (pc2 := 60) rfl ?_
        refine e_iconst (x := 1) dX8_stepWord_60 (by decide) (pc2 := 61) rfl ?_
        refine e_iadd dX8_stepWord_61 (pc2 := 62) rfl ?_
        refine e_i2l dX8_stepWord_62 (pc2 := 63) rfl ?_
        refine e_ladd dX8_stepWord_63 (pc2 := 64) rfl ?_
        obtain ⟨s7, es7, hf⟩ := ltb_s hf
        refine e_putL fl_X8_40 dX8_stepWord_64 so_36 fn_8_5 (h2 := hp s7) (by rw [es7]; rfl) (pc2 := 67) rfl ?_
        refine e_aload_n dX8_stepWord_67 0 rfl rfl (pc2 := 68) rfl ?_
        refine e_dup dX8_stepWord_68 rfl (pc2 := 69) rfl ?_
        refine e_getI fl_X8_24 dX8_stepWord_69 so_36 (by decide) (pc2 := 72) rfl ?_
        refine e_iconst (x := 1) dX8_stepWord_72 (by decide) (pc2 := 73) rfl ?_
        refine e_iadd dX8_stepWord_73 (pc2 := 74) rfl ?_
        obtain ⟨s8, es8, hf⟩ := ltb_s hf
        refine e_putI fl_X8_24 dX8_stepWord_74 so_36 fn_8_3 (h2 := hp s8) (by rw [es8]; rfl) (pc2 := 77) rfl ?_
        refine e_goto (tgt := 0) dX8_stepWord_77 (by decide) ?_
        exact hk0 s8 hf
def f_X8_stepWord_l0 (k80 : HS → Option HS) : Nat → HS → Option HS
  | 0, _ => none
  | n + 1, s => f_X8_stepWord_l0b  (f_X8_stepWord_l0 k80 n) k80 s
set_option maxRecDepth 20000 in
set_option maxHeartbeats 2000000 in
theorem t_X8_stepWord_l0  {t : HS} (k80 : HS → Option HS) (hk80 : ∀ (s : HS), k80 s = some t → Ev DDX8_stepWord miX8_stepWord NF none NF (hp t) 80 NF [(0, .ref 36)] [] (hp s)) : ∀ (n : Nat)  (s : HS), f_X8_stepWord_l0 k80 n s = some t → Ev DDX8_stepWord miX8_stepWord NF none NF (hp t) 0 NF [(0, .ref 36)] [] (hp s) := by
  intro n
  induction n with
  | zero =>
    intro s hf
    have hf : none = some t := hf
    cases hf
  | succ n ih =>
    intro s hf
    exact t_X8_stepWord_l0b   s _ ih _ hk80 hf
def f_X8_stepWord_l107b (v1 : Int32) (k107 : Int32 → HS → Option HS) (s : HS) : Option HS :=
  (if 37 ≤ v1 then some s else gd (inb v1 37) (gd (woc (1000 + (v1 : Int32).toNatClampNeg)) ((if (lg_cmp (keyL.getD ((1000 + (v1 : Int32).toNatClampNeg) - 1000) 0) (s.2.1 36 5)) = 0 then gd (inb v1 37) (ltb (sQ5 s (1000 + (v1 : Int32).toNatClampNeg)) fun s18 => ltb (v1 + 1) fun x19 => k107 x19 s18) else ltb (v1 + 1) fun x16 => k107 x16 s))))
set_option maxRecDepth 20000 in
set_option maxHeartbeats 2000000 in
theorem t_X8_stepWord_l107b (v1 : Int32) (s : HS) {t : HS} (k107 : Int32 → HS → Option HS) (hk107 : ∀ (a1 : Int32) (s : HS), k107 a1 s = some t → Ev DDX8_stepWord miX8_stepWord NF none NF (hp t) 107 NF [(0, .ref 36), (1, .int a1)] [] (hp s)) (hf : f_X8_stepWord_l107b v1 k107 s = some t) : Ev DDX8_stepWord miX8_stepWord NF none NF (hp t) 107 NF [(0, .ref 36), (1, .int v1)] [] (hp s) := by
  refine e_iload_n dX8_stepWord_107 1 rfl rfl (pc2 := 108) rfl ?_
  refine e_getsW dX8_stepWord_108 (by simp [NWL, RX8, yX8_stepWord]) (pc2 := 111) rfl ?_
  refine e_wlen dX8_stepWord_111 (pc2 := 112) rfl ?_
  refine e_icmp_ge (tgt := 146) dX8_stepWord_112 (by decide) (pc2 := 115) rfl (fun c12 => ?_) (fun c12 => ?_)
  · have hf := if_t c12 hf
    cases hf
    exact e_vret rfl dX8_stepWord_146
  · have hf := if_f c12 hf
    refine e_getsW dX8_stepWord_115 (by simp [NWL, RX8, yX8_stepWord]) (pc2 := 118) rfl ?_
    refine e_iload_n dX8_stepWord_118 1 rfl rfl (pc2 := 119) rfl ?_
    obtain ⟨g13, hf⟩ := gd_some hf
    refine e_waldQ dX8_stepWord_119 (inb_v g13) (pc2 := 120) rfl ?_
    obtain ⟨g14, hf⟩ := gd_some hf
    refine e_getEkQ (w := (1000 + (v1 : Int32).toNatClampNeg)) g14 dX8_stepWord_120 eo_X8_68 (pc2 := 123) rfl ?_
    refine e_aload_n dX8_stepWord_123 0 rfl rfl (pc2 := 124) rfl ?_
    refine e_getL fl_X8_40 dX8_stepWord_124 so_36 rfl (pc2 := 127) rfl ?_
    refine e_lcmp dX8_stepWord_127 (pc2 := 128) rfl ?_
    refine e_if_ne (tgt := 140) dX8_stepWord_128 (by decide) (pc2 := 131) rfl (fun c15 => ?_) (fun c15 => ?_)
    · have hf := if_f c15 hf
      obtain ⟨x16, ex16, hf⟩ := ltb_s hf
      refine e_iinc dX8_stepWord_140 1 rfl (c9 := 1) (by decide) ex16.symm (by decide) (ls' := [(0, .ref 36), (1, .int x16)]) [1, 0] rfl (pc2 := 143) rfl ?_
      refine e_goto (tgt := 107) dX8_stepWord_143 (by decide) ?_
      exact hk107 x16 s hf
    · have hf := if_t c15 hf
      refine e_aload_n dX8_stepWord_131 0 rfl rfl (pc2 := 132) rfl ?_
      refine e_getsW dX8_stepWord_132 (by simp [NWL, RX8, yX8_stepWord]) (pc2 := 135) rfl ?_
      refine e_iload_n dX8_stepWord_135 1 rfl rfl (pc2 := 136) rfl ?_
      obtain ⟨g17, hf⟩ := gd_some hf
      refine e_waldQ dX8_stepWord_136 (inb_v g17) (pc2 := 137) rfl ?_
      obtain ⟨s18, es18, hf⟩ := ltb_s hf
      refine e_putQ (w := (1000 + (v1 : Int32).toNatClampNeg)) fl_X8_36 dX8_stepWord_137 so_36 fn_8_8 fr_8_8 (h2 := hp s18) (by rw [es18]; exact hp_q5) (pc2 := 140) rfl ?_
      obtain ⟨x19, ex19, hf⟩ := ltb_s hf
      refine e_iinc dX8_stepWord_140 1 rfl (c9 := 1) (by decide) ex19.symm (by decide) (ls' := [(0, .ref 36), (1, .int x19)]) [1, 0] rfl (pc2 := 143) rfl ?_
      refine e_goto (tgt := 107) dX8_stepWord_143 (by decide) ?_
      exact hk107 x19 s18 hf
def f_X8_stepWord_l107  : Nat → Int32 → HS → Option HS
  | 0, _, _ => none
  | n + 1, v1, s => f_X8_stepWord_l107b v1 (f_X8_stepWord_l107  n)  s
set_option maxRecDepth 20000 in
set_option maxHeartbeats 2000000 in
theorem t_X8_stepWord_l107  {t : HS}  : ∀ (n : Nat) (v1 : Int32) (s : HS), f_X8_stepWord_l107  n v1 s = some t → Ev DDX8_stepWord miX8_stepWord NF none NF (hp t) 107 NF [(0, .ref 36), (1, .int v1)] [] (hp s) := by
  intro n
  induction n with
  | zero =>
    intro v1 s hf
    have hf : none = some t := hf
    cases hf
  | succ n ih =>
    intro v1 s hf
    exact t_X8_stepWord_l107b v1  s _ ih  hf
def f_X8_stepWord_j80  (s : HS) : Option HS :=
  (if ((s.1 36 3) - (s.1 36 2)) ≤ 8 then ltb (sI s 36 4 1) fun s11 => f_X8_stepWord_l107 FU 0 s11 else ltb (sI s 36 4 4) fun s20 => some s20)
set_option maxRecDepth 20000 in
set_option maxHeartbeats 2000000 in
theorem t_X8_stepWord_j80  (s : HS) {t : HS}  (hf : f_X8_stepWord_j80 s = some t) : Ev DDX8_stepWord miX8_stepWord NF none NF (hp t) 80 NF [(0, .ref 36)] [] (hp s) := by
  refine e_aload_n dX8_stepWord_80 0 rfl rfl (pc2 := 81) rfl ?_
  refine e_getI fl_X8_24 dX8_stepWord_81 so_36 (by decide) (pc2 := 84) rfl ?_
  refine e_aload_n dX8_stepWord_84 0 rfl rfl (pc2 := 85) rfl ?_
  refine e_getI fl_X8_33 dX8_stepWord_85 so_36 (by decide) (pc2 := 88) rfl ?_
  refine e_isub dX8_stepWord_88 (pc2 := 89) rfl ?_
  refine e_bipush (x := 8) dX8_stepWord_89 (by decide) (pc2 := 91) rfl ?_
  refine e_icmp_le (tgt := 100) dX8_stepWord_91 (by decide) (pc2 := 94) rfl (fun c10 => ?_) (fun c10 => ?_)
  · have hf := if_t c10 hf
    refine e_aload_n dX8_stepWord_100 0 rfl rfl (pc2 := 101) rfl ?_
    refine e_iconst (x := 1) dX8_stepWord_101 (by decide) (pc2 := 102) rfl ?_
    obtain ⟨s11, es11, hf⟩ := ltb_s hf
    refine e_putI fl_X8_30 dX8_stepWord_102 so_36 fn_8_4 (h2 := hp s11) (by rw [es11]; rfl) (pc2 := 105) rfl ?_
    refine e_iconst (x := 0) dX8_stepWord_105 (by decide) (pc2 := 106) rfl ?_
    refine e_istore_n dX8_stepWord_106 rfl (by decide) rfl (ls' := [(0, .ref 36), (1, .int 0)]) [1, 0] rfl (pc2 := 107) rfl ?_
    refine t_X8_stepWord_l107 FU 0 s11 hf
  · have hf := if_f c10 hf
    refine e_aload_n dX8_stepWord_94 0 rfl rfl (pc2 := 95) rfl ?_
    refine e_iconst (x := 4) dX8_stepWord_95 (by decide) (pc2 := 96) rfl ?_
    obtain ⟨s20, es20, hf⟩ := ltb_s hf
    refine e_putI fl_X8_30 dX8_stepWord_96 so_36 fn_8_4 (h2 := hp s20) (by rw [es20]; rfl) (pc2 := 99) rfl ?_
    cases hf
    exact e_vret rfl dX8_stepWord_99
def f_X8_stepWord  (s : HS) : Option HS :=
  f_X8_stepWord_l0 (fun s9 => f_X8_stepWord_j80 s9) FU s
set_option maxRecDepth 20000 in
set_option maxHeartbeats 2000000 in
theorem t_X8_stepWord  (s : HS) {t : HS} (hf : f_X8_stepWord  s = some t) : Mt DDX8_stepWord miX8_stepWord [.ref 36] NF (hp s) none NF (hp t) := by
  refine Mt.of (by decide +kernel) (Nat.le_refl _) (Nat.le_of_ble_eq_true rfl) ?_
  show Ev DDX8_stepWord miX8_stepWord NF none NF (hp t) 0 NF [(0, .ref 36)] [] (hp s)
  unfold f_X8_stepWord at hf
  refine t_X8_stepWord_l0 _ ?_ FU s hf
  · intro s9 hf
    exact t_X8_stepWord_j80 s9 hf
abbrev DDX8_step : Nat := 5
def f_X8_step_j47 (k8 : HS → Option HS) (s : HS) : Option HS :=
  ltb (sI s 36 3 ((s.1 36 3) + 1)) fun s5 => k8 s5
set_option maxRecDepth 20000 in
set_option maxHeartbeats 2000000 in
theorem t_X8_step_j47  (s : HS) {t : HS} (k8 : HS → Option HS) (hk8 : ∀ (s : HS), k8 s = some t → Ev DDX8_step miX8_step NF none NF (hp t) 8 NF [(0, .ref 36)] [] (hp s)) (hf : f_X8_step_j47 k8 s = some t) : Ev DDX8_step miX8_step NF none NF (hp t) 47 NF [(0, .ref 36)] [] (hp s) := by
  refine e_aload_n dX8_step_47 0 rfl rfl (pc2 := 48) rfl ?_
  refine e_dup dX8_step_48 rfl (pc2 := 49) rfl ?_
  refine e_getI fl_X8_24 dX8_step_49 so_36 (by decide) (pc2 := 52) rfl ?_
  refine e_iconst (x := 1) dX8_step_52 (by decide) (pc2 := 53) rfl ?_
  refine e_iadd dX8_step_53 (pc2 := 54) rfl ?_
  obtain ⟨s5, es5, hf⟩ := ltb_s hf
  refine e_putI fl_X8_24 dX8_step_54 so_36 fn_8_3 (h2 := hp s5) (by rw [es5]; rfl) (pc2 := 57) rfl ?_
  refine e_goto (tgt := 8) dX8_step_57 (by decide) ?_
  exact hk8 s5 hf
def f_X8_step_l8b (k8 : HS → Option HS) (k60 : HS → Option HS) (s : HS) : Option HS :=
  (if (s.1 36 1) ≤ (s.1 36 3) then k60 s else gd (inb (s.1 36 3) 1000) ((if (s.1 37 (s.1 36 3).toNatClampNeg) = 32 then f_X8_step_j47 k8 s else gd (inb (s.1 36 3) 1000) ((if (s.1 37 (s.1 36 3).toNatClampNeg) = 10 then f_X8_step_j47 k8 s else k60 s)))))
set_option maxRecDepth 20000 in
set_option maxHeartbeats 2000000 in
theorem t_X8_step_l8b  (s : HS) {t : HS} (k8 : HS → Option HS) (hk8 : ∀ (s : HS), k8 s = some t → Ev DDX8_step miX8_step NF none NF (hp t) 8 NF [(0, .ref 36)] [] (hp s)) (k60 : HS → Option HS) (hk60 : ∀ (s : HS), k60 s = some t → Ev DDX8_step miX8_step NF none NF (hp t) 60 NF [(0, .ref 36)] [] (hp s)) (hf : f_X8_step_l8b k8 k60 s = some t) : Ev DDX8_step miX8_step NF none NF (hp t) 8 NF [(0, .ref 36)] [] (hp s) := by
  refine e_aload_n dX8_step_8 0 rfl rfl (pc2 := 9) rfl ?_
  refine e_getI fl_X8_24 dX8_step_9 so_36 (by decide) (pc2 := 12) rfl ?_
  refine e_aload_n dX8_step_12 0 rfl rfl (pc2 := 13) rfl ?_
  refine e_getI fl_X8_17 dX8_step_13 so_36 (by decide) (pc2 := 16) rfl ?_
  refine e_icmp_ge (tgt := 60) dX8_step_16 (by decide) (pc2 := 19) rfl (fun c2 => ?_) (fun c2 => ?_)
  · have hf := if_t c2 hf
    exact hk60 s hf
  · have hf := if_f c2 hf
    refine e_aload_n dX8_step_19 0 rfl rfl (pc2 := 20) rfl ?_
    refine e_getR (r := 37) fl_X8_9 dX8_step_20 so_36 (rs_36_0 s.2.2) (by decide) (pc2 := 23) rfl ?_
    refine e_aload_n dX8_step_23 0 rfl rfl (pc2 := 24) rfl ?_
    refine e_getI fl_X8_24 dX8_step_24 so_36 (by decide) (pc2 := 27) rfl ?_
    obtain ⟨g3, hf⟩ := gd_some hf
    refine e_cald dX8_step_27 sa_37 (inb_v g3) (pc2 := 28) rfl ?_
    refine e_bipush (x := 32) dX8_step_28 (by decide) (pc2 := 30) rfl ?_
    refine e_icmp_eq (tgt := 47) dX8_step_30 (by decide) (pc2 := 33) rfl (fun c4 => ?_) (fun c4 => ?_)
    · have hf := if_t c4 hf
      exact t_X8_step_j47 s _ hk8 hf
    · have hf := if_f c4 hf
      refine e_aload_n dX8_step_33 0 rfl rfl (pc2 := 34) rfl ?_
      refine e_getR (r := 37) fl_X8_9 dX8_step_34 so_36 (rs_36_0 s.2.2) (by decide) (pc2 := 37) rfl ?_
      refine e_aload_n dX8_step_37 0 rfl rfl (pc2 := 38) rfl ?_
      refine e_getI fl_X8_24 dX8_step_38 so_36 (by decide) (pc2 := 41) rfl ?_
      obtain ⟨g6, hf⟩ := gd_some hf
      refine e_cald dX8_step_41 sa_37 (inb_v g6) (pc2 := 42) rfl ?_
      refine e_bipush (x := 10) dX8_step_42 (by decide) (pc2 := 44) rfl ?_
      refine e_icmp_ne (tgt := 60) dX8_step_44 (by decide) (pc2 := 47) rfl (fun c7 => ?_) (fun c7 => ?_)
      · have hf := if_f c7 hf
        exact hk60 s hf
      · have hf := if_t c7 hf
        exact t_X8_step_j47 s _ hk8 hf
def f_X8_step_l8 (k60 : HS → Option HS) : Nat → HS → Option HS
  | 0, _ => none
  | n + 1, s => f_X8_step_l8b  (f_X8_step_l8 k60 n) k60 s
set_option maxRecDepth 20000 in
set_option maxHeartbeats 2000000 in
theorem t_X8_step_l8  {t : HS} (k60 : HS → Option HS) (hk60 : ∀ (s : HS), k60 s = some t → Ev DDX8_step miX8_step NF none NF (hp t) 60 NF [(0, .ref 36)] [] (hp s)) : ∀ (n : Nat)  (s : HS), f_X8_step_l8 k60 n s = some t → Ev DDX8_step miX8_step NF none NF (hp t) 8 NF [(0, .ref 36)] [] (hp s) := by
  intro n
  induction n with
  | zero =>
    intro s hf
    have hf : none = some t := hf
    cases hf
  | succ n ih =>
    intro s hf
    exact t_X8_step_l8b   s _ ih _ hk60 hf
def f_X8_step_j167  (s : HS) : Option HS :=
  gd (inb (s.1 36 3) 1000) (gd (isc (s.1 37 (s.1 36 3).toNatClampNeg)) (ltb (sI s 36 7 (s.1 37 (s.1 36 3).toNatClampNeg)) fun s18 => ltb (sI s18 36 3 ((s18.1 36 3) + 1)) fun s20 => bnd (f_J0_indexOf_0f7a4 (s20.1 36 7) s20) fun y21 => (if y21 < 0 then ltb (sI s20 36 4 4) fun s23 => some s23 else ltb (sI s20 36 4 3) fun s24 => some s24)))
set_option maxRecDepth 20000 in
set_option maxHeartbeats 2000000 in
theorem t_X8_step_j167  (s : HS) {t : HS}  (hf : f_X8_step_j167 s = some t) : Ev DDX8_step miX8_step NF none NF (hp t) 167 NF [(0, .ref 36)] [] (hp s) := by
  refine e_aload_n dX8_step_167 0 rfl rfl (pc2 := 168) rfl ?_
  refine e_aload_n dX8_step_168 0 rfl rfl (pc2 := 169) rfl ?_
  refine e_getR (r := 37) fl_X8_9 dX8_step_169 so_36 (rs_36_0 s.2.2) (by decide) (pc2 := 172) rfl ?_
  refine e_aload_n dX8_step_172 0 rfl rfl (pc2 := 173) rfl ?_
  refine e_getI fl_X8_24 dX8_step_173 so_36 (by decide) (pc2 := 176) rfl ?_
  obtain ⟨g17, hf⟩ := gd_some hf
  refine e_cald dX8_step_176 sa_37 (inb_v g17) (pc2 := 177) rfl ?_
  obtain ⟨g19, hf⟩ := gd_some hf
  obtain ⟨s18, es18, hf⟩ := ltb_s hf
  refine e_putC fl_X8_50 dX8_step_177 so_36 fn_8_7 (isc_n g19) (isc_f g19) (h2 := hp s18) (by rw [es18]; rfl) (pc2 := 180) rfl ?_
  refine e_aload_n dX8_step_180 0 rfl rfl (pc2 := 181) rfl ?_
  refine e_dup dX8_step_181 rfl (pc2 := 182) rfl ?_
  refine e_getI fl_X8_24 dX8_step_182 so_36 (by decide) (pc2 := 185) rfl ?_
  refine e_iconst (x := 1) dX8_step_185 (by decide) (pc2 := 186) rfl ?_
  refine e_iadd dX8_step_186 (pc2 := 187) rfl ?_
  obtain ⟨s20, es20, hf⟩ := ltb_s hf
  refine e_putI fl_X8_24 dX8_step_187 so_36 fn_8_3 (h2 := hp s20) (by rw [es20]; rfl) (pc2 := 190) rfl ?_
  refine e_aload_n dX8_step_190 0 rfl rfl (pc2 := 191) rfl ?_
  refine e_ldcT dX8_step_191 rfl (pc2 := 193) rfl ?_
  refine e_aload_n dX8_step_193 0 rfl rfl (pc2 := 194) rfl ?_
  refine e_getI fl_X8_50 dX8_step_194 so_36 (by decide) (pc2 := 197) rfl ?_
  obtain ⟨y21, hy21, hf⟩ := bnd_s hf
  refine e_callVTs (t_J0_indexOf_0f7a4 (s20.1 36 7) s20 hy21) dX8_step_197 cv_X8_56 rfl rfl (by decide) (by first | exact Nat.le_of_ble_eq_true rfl | simp [rva_cat, vc_i, vc_r, vc_l, vc_n]) nn0 rfl (pc2 := 200) rfl ?_
  refine e_if_lt (tgt := 207) dX8_step_200 (by decide) (pc2 := 203) rfl (fun c22 => ?_) (fun c22 => ?_)
  · have hf := if_t c22 hf
    refine e_iconst (x := 4) dX8_step_207 (by decide) (pc2 := 208) rfl ?_
    obtain ⟨s23, es23, hf⟩ := ltb_s hf
    refine e_putI fl_X8_30 dX8_step_208 so_36 fn_8_4 (h2 := hp s23) (by rw [es23]; rfl) (pc2 := 211) rfl ?_
    cases hf
    exact e_vret rfl dX8_step_211
  · have hf := if_f c22 hf
    refine e_iconst (x := 3) dX8_step_203 (by decide) (pc2 := 204) rfl ?_
    refine e_goto (tgt := 208) dX8_step_204 (by decide) ?_
    obtain ⟨s24, es24, hf⟩ := ltb_s hf
    refine e_putI fl_X8_30 dX8_step_208 so_36 fn_8_4 (h2 := hp s24) (by rw [es24]; rfl) (pc2 := 211) rfl ?_
    cases hf
    exact e_vret rfl dX8_step_211
def f_X8_step_j132  (s : HS) : Option HS :=
  gd (inb (s.1 36 3) 1000) ((if (s.1 37 (s.1 36 3).toNatClampNeg) < 48 then f_X8_step_j167 s else gd (inb (s.1 36 3) 1000) ((if 57 < (s.1 37 (s.1 36 3).toNatClampNeg) then f_X8_step_j167 s else bnd (f_X8_stepNumber s) fun s28 => some s28))))
set_option maxRecDepth 20000 in
set_option maxHeartbeats 2000000 in
theorem t_X8_step_j132  (s : HS) {t : HS}  (hf : f_X8_step_j132 s = some t) : Ev DDX8_step miX8_step NF none NF (hp t) 132 NF [(0, .ref 36)] [] (hp s) := by
  refine e_aload_n dX8_step_132 0 rfl rfl (pc2 := 133) rfl ?_
  refine e_getR (r := 37) fl_X8_9 dX8_step_133 so_36 (rs_36_0 s.2.2) (by decide) (pc2 := 136) rfl ?_
  refine e_aload_n dX8_step_136 0 rfl rfl (pc2 := 137) rfl ?_
  refine e_getI fl_X8_24 dX8_step_137 so_36 (by decide) (pc2 := 140) rfl ?_
  obtain ⟨g15, hf⟩ := gd_some hf
  refine e_cald dX8_step_140 sa_37 (inb_v g15) (pc2 := 141) rfl ?_
  refine e_bipush (x := 48) dX8_step_141 (by decide) (pc2 := 143) rfl ?_
  refine e_icmp_lt (tgt := 167) dX8_step_143 (by decide) (pc2 := 146) rfl (fun c16 => ?_) (fun c16 => ?_)
  · have hf := if_t c16 hf
    exact t_X8_step_j167 s hf
  · have hf := if_f c16 hf
    refine e_aload_n dX8_step_146 0 rfl rfl (pc2 := 147) rfl ?_
    refine e_getR (r := 37) fl_X8_9 dX8_step_147 so_36 (rs_36_0 s.2.2) (by decide) (pc2 := 150) rfl ?_
    refine e_aload_n dX8_step_150 0 rfl rfl (pc2 := 151) rfl ?_
    refine e_getI fl_X8_24 dX8_step_151 so_36 (by decide) (pc2 := 154) rfl ?_
    obtain ⟨g25, hf⟩ := gd_some hf
    refine e_cald dX8_step_154 sa_37 (inb_v g25) (pc2 := 155) rfl ?_
    refine e_bipush (x := 57) dX8_step_155 (by decide) (pc2 := 157) rfl ?_
    refine e_icmp_gt (tgt := 167) dX8_step_157 (by decide) (pc2 := 160) rfl (fun c26 => ?_) (fun c26 => ?_)
    · have hf := if_t c26 hf
      exact t_X8_step_j167 s hf
    · have hf := if_f c26 hf
      refine e_aload_n dX8_step_160 0 rfl rfl (pc2 := 161) rfl ?_
      obtain ⟨s28, hy27, hf⟩ := bnd_s hf
      refine e_callVn (t_X8_stepNumber  s hy27) dX8_step_161 cv_X8_47 rfl so_36 rc_8 (by decide) (by first | exact Nat.le_of_ble_eq_true rfl | simp [rva_cat, vc_i, vc_r, vc_l, vc_n]) nn0 rfl (pc2 := 164) rfl ?_
      refine e_goto (tgt := 211) dX8_step_164 (by decide) ?_
      cases hf
      exact e_vret rfl dX8_step_211
def f_X8_step_j60  (s : HS) : Option HS :=
  ltb (sI s 36 2 (s.1 36 3)) fun s9 => ltb (sQ5 s9 0) fun s10 => ltb (sL s10 36 5 0) fun s11 => (if (s11.1 36 3) < (s11.1 36 1) then gd (inb (s11.1 36 3) 1000) ((if (s11.1 37 (s11.1 36 3).toNatClampNeg) < 97 then f_X8_step_j132 s11 else gd (inb (s11.1 36 3) 1000) ((if 122 < (s11.1 37 (s11.1 36 3).toNatClampNeg) then f_X8_step_j132 s11 else bnd (f_X8_stepWord s11) fun s32 => some s32)))) else ltb (sI s11 36 4 0) fun s33 => some s33)
set_option maxRecDepth 20000 in
set_option maxHeartbeats 2000000 in
theorem t_X8_step_j60  (s : HS) {t : HS}  (hf : f_X8_step_j60 s = some t) : Ev DDX8_step miX8_step NF none NF (hp t) 60 NF [(0, .ref 36)] [] (hp s) := by
  refine e_aload_n dX8_step_60 0 rfl rfl (pc2 := 61) rfl ?_
  refine e_aload_n dX8_step_61 0 rfl rfl (pc2 := 62) rfl ?_
  refine e_getI fl_X8_24 dX8_step_62 so_36 (by decide) (pc2 := 65) rfl ?_
  obtain ⟨s9, es9, hf⟩ := ltb_s hf
  refine e_putI fl_X8_33 dX8_step_65 so_36 fn_8_2 (h2 := hp s9) (by rw [es9]; rfl) (pc2 := 68) rfl ?_
  refine e_aload_n dX8_step_68 0 rfl rfl (pc2 := 69) rfl ?_
  refine e_null dX8_step_69 (pc2 := 70) rfl ?_
  obtain ⟨s10, es10, hf⟩ := ltb_s hf
  refine e_putQ (w := 0) fl_X8_36 dX8_step_70 so_36 fn_8_8 fr_8_8 (h2 := hp s10) (by rw [es10]; exact hp_q5) (pc2 := 73) rfl ?_
  refine e_aload_n dX8_step_73 0 rfl rfl (pc2 := 74) rfl ?_
  refine e_lconst (x := 0) dX8_step_74 (by decide) (pc2 := 75) rfl ?_
  obtain ⟨s11, es11, hf⟩ := ltb_s hf
  refine e_putL fl_X8_40 dX8_step_75 so_36 fn_8_5 (h2 := hp s11) (by rw [es11]; rfl) (pc2 := 78) rfl ?_
  refine e_aload_n dX8_step_78 0 rfl rfl (pc2 := 79) rfl ?_
  refine e_getI fl_X8_24 dX8_step_79 so_36 (by decide) (pc2 := 82) rfl ?_
  refine e_aload_n dX8_step_82 0 rfl rfl (pc2 := 83) rfl ?_
  refine e_getI fl_X8_17 dX8_step_83 so_36 (by decide) (pc2 := 86) rfl ?_
  refine e_icmp_lt (tgt := 97) dX8_step_86 (by decide) (pc2 := 89) rfl (fun c12 => ?_) (fun c12 => ?_)
  · have hf := if_t c12 hf
    refine e_aload_n dX8_step_97 0 rfl rfl (pc2 := 98) rfl ?_
    refine e_getR (r := 37) fl_X8_9 dX8_step_98 so_36 (rs_36_0 s11.2.2) (by decide) (pc2 := 101) rfl ?_
    refine e_aload_n dX8_step_101 0 rfl rfl (pc2 := 102) rfl ?_
    refine e_getI fl_X8_24 dX8_step_102 so_36 (by decide) (pc2 := 105) rfl ?_
    obtain ⟨g13, hf⟩ := gd_some hf
    refine e_cald dX8_step_105 sa_37 (inb_v g13) (pc2 := 106) rfl ?_
    refine e_bipush (x := 97) dX8_step_106 (by decide) (pc2 := 108) rfl ?_
    refine e_icmp_lt (tgt := 132) dX8_step_108 (by decide) (pc2 := 111) rfl (fun c14 => ?_) (fun c14 => ?_)
    · have hf := if_t c14 hf
      exact t_X8_step_j132 s11 hf
    · have hf := if_f c14 hf
      refine e_aload_n dX8_step_111 0 rfl rfl (pc2 := 112) rfl ?_
      refine e_getR (r := 37) fl_X8_9 dX8_step_112 so_36 (rs_36_0 s11.2.2) (by decide) (pc2 := 115) rfl ?_
      refine e_aload_n dX8_step_115 0 rfl rfl (pc2 := 116) rfl ?_
      refine e_getI fl_X8_24 dX8_step_116 so_36 (by decide) (pc2 := 119) rfl ?_
      obtain ⟨g29, hf⟩ := gd_some hf
      refine e_cald dX8_step_119 sa_37 (inb_v g29) (pc2 := 120) rfl ?_
      refine e_bipush (x := 122) dX8_step_120 (by decide) (pc2 := 122) rfl ?_
      refine e_icmp_gt (tgt := 132) dX8_step_122 (by decide) (pc2 := 125) rfl (fun c30 => ?_) (fun c30 => ?_)
      · have hf := if_t c30 hf
        exact t_X8_step_j132 s11 hf
      · have hf := if_f c30 hf
        refine e_aload_n dX8_step_125 0 rfl rfl (pc2 := 126) rfl ?_
        obtain ⟨s32, hy31, hf⟩ := bnd_s hf
        refine e_callVn (t_X8_stepWord  s11 hy31) dX8_step_126 cv_X8_44 rfl so_36 rc_8 (by decide) (by first | exact Nat.le_of_ble_eq_true rfl | simp [rva_cat, vc_i, vc_r, vc_l, vc_n]) nn0 rfl (pc2 := 129) rfl ?_
        refine e_goto (tgt := 211) dX8_step_129 (by decide) ?_
        cases hf
        exact e_vret rfl dX8_step_211
  · have hf := if_f c12 hf
    refine e_aload_n dX8_step_89 0 rfl rfl (pc2 := 90) rfl ?_
    refine e_iconst (x := 0) dX8_step_90 (by decide) (pc2 := 91) rfl ?_
    obtain ⟨s33, es33, hf⟩ := ltb_s hf
    refine e_putI fl_X8_30 dX8_step_91 so_36 fn_8_4 (h2 := hp s33) (by rw [es33]; rfl) (pc2 := 94) rfl ?_
    refine e_goto (tgt := 211) dX8_step_94 (by decide) ?_
    cases hf
    exact e_vret rfl dX8_step_211
def f_X8_step  (s : HS) : Option HS :=
  (if (s.1 36 9) = 0 then f_X8_step_l8 (fun s8 => f_X8_step_j60 s8) FU s else some s)
set_option maxRecDepth 20000 in
set_option maxHeartbeats 2000000 in
theorem t_X8_step  (s : HS) {t : HS} (hf : f_X8_step  s = some t) : Mt DDX8_step miX8_step [.ref 36] NF (hp s) none NF (hp t) := by
  refine Mt.of (by decide +kernel) (Nat.le_refl _) (Nat.le_of_ble_eq_true rfl) ?_
  show Ev DDX8_step miX8_step NF none NF (hp t) 0 NF [(0, .ref 36)] [] (hp s)
  unfold f_X8_step at hf
  refine e_aload_n dX8_step_0 0 rfl rfl (pc2 := 1) rfl ?_
  refine e_getI fl_X8_21 dX8_step_1 so_36 (by decide) (pc2 := 4) rfl ?_
  refine e_if_eq (tgt := 8) dX8_step_4 (by decide) (pc2 := 7) rfl (fun c1 => ?_) (fun c1 => ?_)
  · have hf := if_t c1 hf
    refine t_X8_step_l8 _ ?_ FU s hf
    · intro s8 hf
      exact t_X8_step_j60 s8 hf
  · have hf := if_f c1 hf
    cases hf
    exact e_vret rfl dX8_step_7
abbrev DDX8_rewind : Nat := 6
def f_X8_rewind  (s : HS) : Option HS :=
  ltb (sI s 36 9 0) fun s1 => ltb (sI s1 36 3 0) fun s2 => bnd (f_X8_step s2) fun s4 => some s4
set_option maxRecDepth 20000 in
set_option maxHeartbeats 2000000 in
theorem t_X8_rewind  (s : HS) {t : HS} (hf : f_X8_rewind  s = some t) : Mt DDX8_rewind miX8_rewind [.ref 36] NF (hp s) none NF (hp t) := by
  refine Mt.of (by decide +kernel) (Nat.le_refl _) (Nat.le_of_ble_eq_true rfl) ?_
  show Ev DDX8_rewind miX8_rewind NF none NF (hp t) 0 NF [(0, .ref 36)] [] (hp s)
  unfold f_X8_rewind at hf
  refine e_aload_n dX8_rewind_0 0 rfl rfl (pc2 := 1) rfl ?_
  refine e_iconst (x := 0) dX8_rewind_1 (by decide) (pc2 := 2) rfl ?_
  obtain ⟨s1, es1, hf⟩ := ltb_s hf
  refine e_putI fl_X8_21 dX8_rewind_2 so_36 fn_8_9 (h2 := hp s1) (by rw [es1]; rfl) (pc2 := 5) rfl ?_
  refine e_aload_n dX8_rewind_5 0 rfl rfl (pc2 := 6) rfl ?_
  refine e_iconst (x := 0) dX8_rewind_6 (by decide) (pc2 := 7) rfl ?_
  obtain ⟨s2, es2, hf⟩ := ltb_s hf
  refine e_putI fl_X8_24 dX8_rewind_7 so_36 fn_8_3 (h2 := hp s2) (by rw [es2]; rfl) (pc2 := 10) rfl ?_
  refine e_aload_n dX8_rewind_10 0 rfl rfl (pc2 := 11) rfl ?_
  obtain ⟨s4, hy3, hf⟩ := bnd_s hf
  refine e_callVn (t_X8_step  s2 hy3) dX8_rewind_11 cv_X8_27 rfl so_36 rc_8 (by decide) (by first | exact Nat.le_of_ble_eq_true rfl | simp [rva_cat, vc_i, vc_r, vc_l, vc_n]) nn0 rfl (pc2 := 14) rfl ?_
  cases hf
  exact e_vret rfl dX8_rewind_14
abbrev DDX8_finish : Nat := 1
def f_X8_finish  (s : HS) : Option (Int32 × HS) :=
  ltb (sI s 36 1 0) fun s1 => some (s1.1 36 9, s1)
set_option maxRecDepth 20000 in
set_option maxHeartbeats 2000000 in
theorem t_X8_finish  (s : HS) {x : Int32} {t : HS} (hf : f_X8_finish  s = some (x, t)) : Mt DDX8_finish miX8_finish [.ref 36] NF (hp s) (some (.int x)) NF (hp t) := by
  refine Mt.of (by decide +kernel) (Nat.le_refl _) (Nat.le_of_ble_eq_true rfl) ?_
  show Ev DDX8_finish miX8_finish NF (some (.int x)) NF (hp t) 0 NF [(0, .ref 36)] [] (hp s)
  unfold f_X8_finish at hf
  refine e_aload_n dX8_finish_0 0 rfl rfl (pc2 := 1) rfl ?_
  refine e_iconst (x := 0) dX8_finish_1 (by decide) (pc2 := 2) rfl ?_
  obtain ⟨s1, es1, hf⟩ := ltb_s hf
  refine e_putI fl_X8_17 dX8_finish_2 so_36 fn_8_1 (h2 := hp s1) (by rw [es1]; rfl) (pc2 := 5) rfl ?_
  refine e_aload_n dX8_finish_5 0 rfl rfl (pc2 := 6) rfl ?_
  refine e_getI fl_X8_21 dX8_finish_6 so_36 (by decide) (pc2 := 9) rfl ?_
  cases hf
  exact e_iret rfl dX8_finish_9
abbrev DDX8_goesOn : Nat := 1
def f_X8_goesOn  (s : HS) : Int32 :=
  (if (s.1 36 9) = 0 then (if (s.1 36 4) = 0 then 0 else 1) else 0)
set_option maxRecDepth 20000 in
set_option maxHeartbeats 2000000 in
theorem t_X8_goesOn  (s : HS) {x : Int32} (hf : f_X8_goesOn  s = x) : Mt DDX8_goesOn miX8_goesOn [.ref 36] NF (hp s) (some (.int x)) NF (hp s) := by
  refine Mt.of (by decide +kernel) (Nat.le_refl _) (Nat.le_of_ble_eq_true rfl) ?_
  show Ev DDX8_goesOn miX8_goesOn NF (some (.int x)) NF (hp s) 0 NF [(0, .ref 36)] [] (hp s)
  unfold f_X8_goesOn at hf
  refine e_aload_n dX8_goesOn_0 0 rfl rfl (pc2 := 1) rfl ?_
  refine e_getI fl_X8_21 dX8_goesOn_1 so_36 (by decide) (pc2 := 4) rfl ?_
  refine e_if_ne (tgt := 18) dX8_goesOn_4 (by decide) (pc2 := 7) rfl (fun c1 => ?_) (fun c1 => ?_)
  · have hf := if_f c1 hf
    refine e_iconst (x := 0) dX8_goesOn_18 (by decide) (pc2 := 19) rfl ?_
    cases hf
    exact e_zret (by decide) rfl dX8_goesOn_19
  · have hf := if_t c1 hf
    refine e_aload_n dX8_goesOn_7 0 rfl rfl (pc2 := 8) rfl ?_
    refine e_getI fl_X8_30 dX8_goesOn_8 so_36 (by decide) (pc2 := 11) rfl ?_
    refine e_if_eq (tgt := 18) dX8_goesOn_11 (by decide) (pc2 := 14) rfl (fun c2 => ?_) (fun c2 => ?_)
    · have hf := if_t c2 hf
      refine e_iconst (x := 0) dX8_goesOn_18 (by decide) (pc2 := 19) rfl ?_
      cases hf
      exact e_zret (by decide) rfl dX8_goesOn_19
    · have hf := if_f c2 hf
      refine e_iconst (x := 1) dX8_goesOn_14 (by decide) (pc2 := 15) rfl ?_
      refine e_goto (tgt := 19) dX8_goesOn_15 (by decide) ?_
      cases hf
      exact e_zret (by decide) rfl dX8_goesOn_19
abbrev DDX1_whatOf : Nat := 1
def f_X1_whatOf (v0 : Nat) (s : HS) : Int32 :=
  (if v0 = 1020 then 3 else (if v0 = 1021 then 3 else (if v0 = 1001 then 0 else (if v0 = 1022 then 1 else (if v0 = 1013 then 2 else (if v0 = 1007 then 4 else (if v0 = 1023 then 5 else (-1))))))))
set_option maxRecDepth 20000 in
set_option maxHeartbeats 2000000 in
theorem t_X1_whatOf (v0 : Nat) (hv0 : wob v0 = true) (s : HS) {x : Int32} (hf : f_X1_whatOf  v0 s = x) : Mt DDX1_whatOf miX1_whatOf [rva v0] NF (hp s) (some (.int x)) NF (hp s) := by
  refine Mt.of (by decide +kernel) (Nat.le_refl _) (by simp [lg_sl, rva_cat, vc_i, vc_r, vc_l, vc_n]) ?_
  rw [show lv_args 0 [rva v0] = [(0, rva v0)] by simp [lv_args, rva_cat, vc_i, vc_r, vc_l, vc_n]]
  show Ev DDX1_whatOf miX1_whatOf NF (some (.int x)) NF (hp s) 0 NF [(0, rva v0)] [] (hp s)
  unfold f_X1_whatOf at hf
  refine e_aload_nQ (w := v0) dX1_whatOf_0 0 rfl rfl (pc2 := 1) rfl ?_
  refine e_getsE (i := 20) (by decide) dX1_whatOf_1 gs_X1_48 (pc2 := 4) rfl ?_
  refine e_acmp_eq (tgt := 14) dX1_whatOf_4 (by decide) (w1 := v0) (w2 := 1020) hv0 (by decide) (pc2 := 7) rfl (fun c1 => ?_) (fun c1 => ?_)
  · have hf := if_t c1 hf
    refine e_iconst (x := 3) dX1_whatOf_14 (by decide) (pc2 := 15) rfl ?_
    cases hf
    exact e_iret rfl dX1_whatOf_15
  · have hf := if_f c1 hf
    refine e_aload_nQ (w := v0) dX1_whatOf_7 0 rfl rfl (pc2 := 8) rfl ?_
    refine e_getsE (i := 21) (by decide) dX1_whatOf_8 gs_X1_89 (pc2 := 11) rfl ?_
    refine e_acmp_ne (tgt := 16) dX1_whatOf_11 (by decide) (w1 := v0) (w2 := 1021) hv0 (by decide) (pc2 := 14) rfl (fun c2 => ?_) (fun c2 => ?_)
    · have hf := if_f c2 hf
      refine e_aload_nQ (w := v0) dX1_whatOf_16 0 rfl rfl (pc2 := 17) rfl ?_
      refine e_getsE (i := 1) (by decide) dX1_whatOf_17 gs_X1_92 (pc2 := 20) rfl ?_
      refine e_acmp_ne (tgt := 27) dX1_whatOf_20 (by decide) (w1 := v0) (w2 := 1001) hv0 (by decide) (pc2 := 23) rfl (fun c3 => ?_) (fun c3 => ?_)
      · have hf := if_f c3 hf
        refine e_aload_nQ (w := v0) dX1_whatOf_27 0 rfl rfl (pc2 := 28) rfl ?_
        refine e_getsE (i := 22) (by decide) dX1_whatOf_28 gs_X1_95 (pc2 := 31) rfl ?_
        refine e_acmp_ne (tgt := 38) dX1_whatOf_31 (by decide) (w1 := v0) (w2 := 1022) hv0 (by decide) (pc2 := 34) rfl (fun c4 => ?_) (fun c4 => ?_)
        · have hf := if_f c4 hf
          refine e_aload_nQ (w := v0) dX1_whatOf_38 0 rfl rfl (pc2 := 39) rfl ?_
          refine e_getsE (i := 13) (by decide) dX1_whatOf_39 gs_X1_98 (pc2 := 42) rfl ?_
          refine e_acmp_ne (tgt := 49) dX1_whatOf_42 (by decide) (w1 := v0) (w2 := 1013) hv0 (by decide) (pc2 := 45) rfl (fun c5 => ?_) (fun c5 => ?_)
          · have hf := if_f c5 hf
            refine e_aload_nQ (w := v0) dX1_whatOf_49 0 rfl rfl (pc2 := 50) rfl ?_
            refine e_getsE (i := 7) (by decide) dX1_whatOf_50 gs_X1_101 (pc2 := 53) rfl ?_
            refine e_acmp_ne (tgt := 60) dX1_whatOf_53 (by decide) (w1 := v0) (w2 := 1007) hv0 (by decide) (pc2 := 56) rfl (fun c6 => ?_) (fun c6 => ?_)
            · have hf := if_f c6 hf
              refine e_aload_nQ (w := v0) dX1_whatOf_60 0 rfl rfl (pc2 := 61) rfl ?_
              refine e_getsE (i := 23) (by decide) dX1_whatOf_61 gs_X1_104 (pc2 := 64) rfl ?_
              refine e_acmp_ne (tgt := 71) dX1_whatOf_64 (by decide) (w1 := v0) (w2 := 1023) hv0 (by decide) (pc2 := 67) rfl (fun c7 => ?_) (fun c7 => ?_)
              · have hf := if_f c7 hf
                refine e_iconst (x := (-1)) dX1_whatOf_71 (by decide) (pc2 := 72) rfl ?_
                cases hf
                exact e_iret rfl dX1_whatOf_72
              · have hf := if_t c7 hf
                refine e_iconst (x := 5) dX1_whatOf_67 (by decide) (pc2 := 68) rfl ?_
                refine e_goto (tgt := 72) dX1_whatOf_68 (by decide) ?_
                cases hf
                exact e_iret rfl dX1_whatOf_72
            · have hf := if_t c6 hf
              refine e_iconst (x := 4) dX1_whatOf_56 (by decide) (pc2 := 57) rfl ?_
              refine e_goto (tgt := 72) dX1_whatOf_57 (by decide) ?_
              cases hf
              exact e_iret rfl dX1_whatOf_72
          · have hf := if_t c5 hf
            refine e_iconst (x := 2) dX1_whatOf_45 (by decide) (pc2 := 46) rfl ?_
            refine e_goto (tgt := 72) dX1_whatOf_46 (by decide) ?_
            cases hf
            exact e_iret rfl dX1_whatOf_72
        · have hf := if_t c4 hf
          refine e_iconst (x := 1) dX1_whatOf_34 (by decide) (pc2 := 35) rfl ?_
          refine e_goto (tgt := 72) dX1_whatOf_35 (by decide) ?_
          cases hf
          exact e_iret rfl dX1_whatOf_72
      · have hf := if_t c3 hf
        refine e_iconst (x := 0) dX1_whatOf_23 (by decide) (pc2 := 24) rfl ?_
        refine e_goto (tgt := 72) dX1_whatOf_24 (by decide) ?_
        cases hf
        exact e_iret rfl dX1_whatOf_72
    · have hf := if_t c2 hf
      refine e_iconst (x := 3) dX1_whatOf_14 (by decide) (pc2 := 15) rfl ?_
      cases hf
      exact e_iret rfl dX1_whatOf_15
abbrev DDX1_keepLine : Nat := 1
def f_X1_keepLine (v1 : Int32) (v2 : Int32) (v3 : Int32) (s : HS) : Option HS :=
  ltb ((s.1 71 2) * 3) fun x1 => gd (inb x1 120) (ltb (sI s 72 (x1.toNatClampNeg) v1) fun s2 => gd (inb (x1 + 1) 120) (ltb (sI s2 72 ((x1 + 1).toNatClampNeg) v2) fun s4 => gd (inb (x1 + 2) 120) (ltb (sI s4 72 ((x1 + 2).toNatClampNeg) v3) fun s6 => ltb (sI s6 71 2 ((s6.1 71 2) + 1)) fun s8 => some s8)))
set_option maxRecDepth 20000 in
set_option maxHeartbeats 2000000 in
theorem t_X1_keepLine (v1 : Int32) (v2 : Int32) (v3 : Int32) (s : HS) {t : HS} (hf : f_X1_keepLine  v1 v2 v3 s = some t) : Mt DDX1_keepLine miX1_keepLine [.ref 71, .int v1, .int v2, .int v3] NF (hp s) none NF (hp t) := by
  refine Mt.of (by decide +kernel) (Nat.le_refl _) (Nat.le_of_ble_eq_true rfl) ?_
  show Ev DDX1_keepLine miX1_keepLine NF none NF (hp t) 0 NF [(0, .ref 71), (1, .int v1), (2, .int v2), (3, .int v3)] [] (hp s)
  unfold f_X1_keepLine at hf
  refine e_aload_n dX1_keepLine_0 0 rfl rfl (pc2 := 1) rfl ?_
  refine e_getI fl_X1_19 dX1_keepLine_1 so_71 (by decide) (pc2 := 4) rfl ?_
  refine e_iconst (x := 3) dX1_keepLine_4 (by decide) (pc2 := 5) rfl ?_
  refine e_imul dX1_keepLine_5 (pc2 := 6) rfl ?_
  obtain ⟨x1, ex1, hf⟩ := ltb_s hf
  refine e_istore dX1_keepLine_6 (by decide) ex1.symm (ls' := [(0, .ref 71), (1, .int v1), (2, .int v2), (3, .int v3), (4, .int x1)]) [1, 2, 3, 4, 0] rfl (pc2 := 8) rfl ?_
  refine e_aload_n dX1_keepLine_8 0 rfl rfl (pc2 := 9) rfl ?_
  refine e_getR (r := 72) fl_X1_9 dX1_keepLine_9 so_71 (rs_71_1 s.2.2) (by decide) (pc2 := 12) rfl ?_
  refine e_iload dX1_keepLine_12 4 rfl (pc2 := 14) rfl ?_
  refine e_iload_n dX1_keepLine_14 1 rfl rfl (pc2 := 15) rfl ?_
  obtain ⟨g3, hf⟩ := gd_some hf
  obtain ⟨s2, es2, hf⟩ := ltb_s hf
  refine e_iast dX1_keepLine_15 sa_72 (inb_v g3) (h2 := hp s2) (by rw [es2]; rfl) (pc2 := 16) rfl ?_
  refine e_aload_n dX1_keepLine_16 0 rfl rfl (pc2 := 17) rfl ?_
  refine e_getR (r := 72) fl_X1_9 dX1_keepLine_17 so_71 (rs_71_1 s2.2.2) (by decide) (pc2 := 20) rfl ?_
  refine e_iload dX1_keepLine_20 4 rfl (pc2 := 22) rfl ?_
  refine e_iconst (x := 1) dX1_keepLine_22 (by decide) (pc2 := 23) rfl ?_
  refine e_iadd dX1_keepLine_23 (pc2 := 24) rfl ?_
  refine e_iload_n dX1_keepLine_24 2 rfl rfl (pc2 := 25) rfl ?_
  obtain ⟨g5, hf⟩ := gd_some hf
  obtain ⟨s4, es4, hf⟩ := ltb_s hf
  refine e_iast dX1_keepLine_25 sa_72 (inb_v g5) (h2 := hp s4) (by rw [es4]; rfl) (pc2 := 26) rfl ?_
  refine e_aload_n dX1_keepLine_26 0 rfl rfl (pc2 := 27) rfl ?_
  refine e_getR (r := 72) fl_X1_9 dX1_keepLine_27 so_71 (rs_71_1 s4.2.2) (by decide) (pc2 := 30) rfl ?_
  refine e_iload dX1_keepLine_30 4 rfl (pc2 := 32) rfl ?_
  refine e_iconst (x := 2) dX1_keepLine_32 (by decide) (pc2 := 33) rfl ?_
  refine e_iadd dX1_keepLine_33 (pc2 := 34) rfl ?_
  refine e_iload_n dX1_keepLine_34 3 rfl rfl (pc2 := 35) rfl ?_
  obtain ⟨g7, hf⟩ := gd_some hf
  obtain ⟨s6, es6, hf⟩ := ltb_s hf
  refine e_iast dX1_keepLine_35 sa_72 (inb_v g7) (h2 := hp s6) (by rw [es6]; rfl) (pc2 := 36) rfl ?_
  refine e_aload_n dX1_keepLine_36 0 rfl rfl (pc2 := 37) rfl ?_
  refine e_dup dX1_keepLine_37 rfl (pc2 := 38) rfl ?_
  refine e_getI fl_X1_19 dX1_keepLine_38 so_71 (by decide) (pc2 := 41) rfl ?_
  refine e_iconst (x := 1) dX1_keepLine_41 (by decide) (pc2 := 42) rfl ?_
  refine e_iadd dX1_keepLine_42 (pc2 := 43) rfl ?_
  obtain ⟨s8, es8, hf⟩ := ltb_s hf
  refine e_putI fl_X1_19 dX1_keepLine_43 so_71 fn_1_2 (h2 := hp s8) (by rw [es8]; rfl) (pc2 := 46) rfl ?_
  cases hf
  exact e_vret rfl dX1_keepLine_46
abbrev DDX8_isSign : Nat := 1
def f_X8_isSign (v1 : Int32) (s : HS) : Int32 :=
  (if (s.1 36 4) = 3 then (if (s.1 36 7) = v1 then 1 else 0) else 0)
set_option maxRecDepth 20000 in
set_option maxHeartbeats 2000000 in
theorem t_X8_isSign (v1 : Int32) (s : HS) {x : Int32} (hf : f_X8_isSign  v1 s = x) : Mt DDX8_isSign miX8_isSign [.ref 36, .int v1] NF (hp s) (some (.int x)) NF (hp s) := by
  refine Mt.of (by decide +kernel) (Nat.le_refl _) (Nat.le_of_ble_eq_true rfl) ?_
  show Ev DDX8_isSign miX8_isSign NF (some (.int x)) NF (hp s) 0 NF [(0, .ref 36), (1, .int v1)] [] (hp s)
  unfold f_X8_isSign at hf
  refine e_aload_n dX8_isSign_0 0 rfl rfl (pc2 := 1) rfl ?_
  refine e_getI fl_X8_30 dX8_isSign_1 so_36 (by decide) (pc2 := 4) rfl ?_
  refine e_iconst (x := 3) dX8_isSign_4 (by decide) (pc2 := 5) rfl ?_
  refine e_icmp_ne (tgt := 20) dX8_isSign_5 (by decide) (pc2 := 8) rfl (fun c1 => ?_) (fun c1 => ?_)
  · have hf := if_f c1 hf
    refine e_iconst (x := 0) dX8_isSign_20 (by decide) (pc2 := 21) rfl ?_
    cases hf
    exact e_zret (by decide) rfl dX8_isSign_21
  · have hf := if_t c1 hf
    refine e_aload_n dX8_isSign_8 0 rfl rfl (pc2 := 9) rfl ?_
    refine e_getI fl_X8_50 dX8_isSign_9 so_36 (by decide) (pc2 := 12) rfl ?_
    refine e_iload_n dX8_isSign_12 1 rfl rfl (pc2 := 13) rfl ?_
    refine e_icmp_ne (tgt := 20) dX8_isSign_13 (by decide) (pc2 := 16) rfl (fun c2 => ?_) (fun c2 => ?_)
    · have hf := if_f c2 hf
      refine e_iconst (x := 0) dX8_isSign_20 (by decide) (pc2 := 21) rfl ?_
      cases hf
      exact e_zret (by decide) rfl dX8_isSign_21
    · have hf := if_t c2 hf
      refine e_iconst (x := 1) dX8_isSign_16 (by decide) (pc2 := 17) rfl ?_
      refine e_goto (tgt := 21) dX8_isSign_17 (by decide) ?_
      cases hf
      exact e_zret (by decide) rfl dX8_isSign_21
abbrev DDX8_fail : Nat := 1
def f_X8_fail (v1 : Int32) (s : HS) : Option HS :=
  (if (s.1 36 9) = 0 then ltb (sI s 36 9 (v1 + (16 * (s.1 36 2)))) fun s4 => ltb (sI s4 36 4 4) fun s5 => ltb (sQ5 s5 0) fun s6 => some s6 else ltb (sI s 36 4 4) fun s2 => ltb (sQ5 s2 0) fun s3 => some s3)
set_option maxRecDepth 20000 in
set_option maxHeartbeats 2000000 in
theorem t_X8_fail (v1 : Int32) (s : HS) {t : HS} (hf : f_X8_fail  v1 s = some t) : Mt DDX8_fail miX8_fail [.ref 36, .int v1] NF (hp s) none NF (hp t) := by
  refine Mt.of (by decide +kernel) (Nat.le_refl _) (Nat.le_of_ble_eq_true rfl) ?_
  show Ev DDX8_fail miX8_fail NF none NF (hp t) 0 NF [(0, .ref 36), (1, .int v1)] [] (hp s)
  unfold f_X8_fail at hf
  refine e_aload_n dX8_fail_0 0 rfl rfl (pc2 := 1) rfl ?_
  refine e_getI fl_X8_21 dX8_fail_1 so_36 (by decide) (pc2 := 4) rfl ?_
  refine e_if_ne (tgt := 20) dX8_fail_4 (by decide) (pc2 := 7) rfl (fun c1 => ?_) (fun c1 => ?_)
  · have hf := if_f c1 hf
    refine e_aload_n dX8_fail_20 0 rfl rfl (pc2 := 21) rfl ?_
    refine e_iconst (x := 4) dX8_fail_21 (by decide) (pc2 := 22) rfl ?_
    obtain ⟨s2, es2, hf⟩ := ltb_s hf
    refine e_putI fl_X8_30 dX8_fail_22 so_36 fn_8_4 (h2 := hp s2) (by rw [es2]; rfl) (pc2 := 25) rfl ?_
    refine e_aload_n dX8_fail_25 0 rfl rfl (pc2 := 26) rfl ?_
    refine e_null dX8_fail_26 (pc2 := 27) rfl ?_
    obtain ⟨s3, es3, hf⟩ := ltb_s hf
    refine e_putQ (w := 0) fl_X8_36 dX8_fail_27 so_36 fn_8_8 fr_8_8 (h2 := hp s3) (by rw [es3]; exact hp_q5) (pc2 := 30) rfl ?_
    cases hf
    exact e_vret rfl dX8_fail_30
  · have hf := if_t c1 hf
    refine e_aload_n dX8_fail_7 0 rfl rfl (pc2 := 8) rfl ?_
    refine e_iload_n dX8_fail_8 1 rfl rfl (pc2 := 9) rfl ?_
    refine e_bipush (x := 16) dX8_fail_9 (by decide) (pc2 := 11) rfl ?_
    refine e_aload_n dX8_fail_11 0 rfl rfl (pc2 := 12) rfl ?_
    refine e_getI fl_X8_33 dX8_fail_12 so_36 (by decide) (pc2 := 15) rfl ?_
    refine e_imul dX8_fail_15 (pc2 := 16) rfl ?_
    refine e_iadd dX8_fail_16 (pc2 := 17) rfl ?_
    obtain ⟨s4, es4, hf⟩ := ltb_s hf
    refine e_putI fl_X8_21 dX8_fail_17 so_36 fn_8_9 (h2 := hp s4) (by rw [es4]; rfl) (pc2 := 20) rfl ?_
    refine e_aload_n dX8_fail_20 0 rfl rfl (pc2 := 21) rfl ?_
    refine e_iconst (x := 4) dX8_fail_21 (by decide) (pc2 := 22) rfl ?_
    obtain ⟨s5, es5, hf⟩ := ltb_s hf
    refine e_putI fl_X8_30 dX8_fail_22 so_36 fn_8_4 (h2 := hp s5) (by rw [es5]; rfl) (pc2 := 25) rfl ?_
    refine e_aload_n dX8_fail_25 0 rfl rfl (pc2 := 26) rfl ?_
    refine e_null dX8_fail_26 (pc2 := 27) rfl ?_
    obtain ⟨s6, es6, hf⟩ := ltb_s hf
    refine e_putQ (w := 0) fl_X8_36 dX8_fail_27 so_36 fn_8_8 fr_8_8 (h2 := hp s6) (by rw [es6]; exact hp_q5) (pc2 := 30) rfl ?_
    cases hf
    exact e_vret rfl dX8_fail_30
abbrev DDX8_takeSign : Nat := 6
def f_X8_takeSign (v1 : Int32) (s : HS) : Option HS :=
  (if (f_X8_isSign v1 s) = 0 then bnd (f_X8_fail 1 s) fun s3 => some s3 else bnd (f_X8_step s) fun s5 => some s5)
set_option maxRecDepth 20000 in
set_option maxHeartbeats 2000000 in
theorem t_X8_takeSign (v1 : Int32) (s : HS) {t : HS} (hf : f_X8_takeSign  v1 s = some t) : Mt DDX8_takeSign miX8_takeSign [.ref 36, .int v1] NF (hp s) none NF (hp t) := by
  refine Mt.of (by decide +kernel) (Nat.le_refl _) (Nat.le_of_ble_eq_true rfl) ?_
  show Ev DDX8_takeSign miX8_takeSign NF none NF (hp t) 0 NF [(0, .ref 36), (1, .int v1)] [] (hp s)
  unfold f_X8_takeSign at hf
  refine e_aload_n dX8_takeSign_0 0 rfl rfl (pc2 := 1) rfl ?_
  refine e_iload_n dX8_takeSign_1 1 rfl rfl (pc2 := 2) rfl ?_
  refine e_callVs (t_X8_isSign v1 s rfl) dX8_takeSign_2 cv_X8_81 rfl so_36 rc_8 (by decide) (by first | exact Nat.le_of_ble_eq_true rfl | simp [rva_cat, vc_i, vc_r, vc_l, vc_n]) nn0 rfl (pc2 := 5) rfl ?_
  refine e_if_eq (tgt := 15) dX8_takeSign_5 (by decide) (pc2 := 8) rfl (fun c1 => ?_) (fun c1 => ?_)
  · have hf := if_t c1 hf
    refine e_aload_n dX8_takeSign_15 0 rfl rfl (pc2 := 16) rfl ?_
    refine e_iconst (x := 1) dX8_takeSign_16 (by decide) (pc2 := 17) rfl ?_
    obtain ⟨s3, hy2, hf⟩ := bnd_s hf
    refine e_callVn (t_X8_fail 1 s hy2) dX8_takeSign_17 cv_X8_77 rfl so_36 rc_8 (by decide) (by first | exact Nat.le_of_ble_eq_true rfl | simp [rva_cat, vc_i, vc_r, vc_l, vc_n]) nn0 rfl (pc2 := 20) rfl ?_
    cases hf
    exact e_vret rfl dX8_takeSign_20
  · have hf := if_f c1 hf
    refine e_aload_n dX8_takeSign_8 0 rfl rfl (pc2 := 9) rfl ?_
    obtain ⟨s5, hy4, hf⟩ := bnd_s hf
    refine e_callVn (t_X8_step  s hy4) dX8_takeSign_9 cv_X8_27 rfl so_36 rc_8 (by decide) (by first | exact Nat.le_of_ble_eq_true rfl | simp [rva_cat, vc_i, vc_r, vc_l, vc_n]) nn0 rfl (pc2 := 12) rfl ?_
    refine e_goto (tgt := 20) dX8_takeSign_12 (by decide) ?_
    cases hf
    exact e_vret rfl dX8_takeSign_20
abbrev DDX8_takeNumber : Nat := 6
def f_X8_takeNumber (v1 : Int32) (v2 : Int32) (s : HS) : Option (Int32 × HS) :=
  ltb (s.1 36 6) fun x1 => (if (s.1 36 4) = 2 then (if x1 < v1 then bnd (f_X8_fail 4 s) fun s5 => some (0, s5) else (if x1 ≤ v2 then bnd (f_X8_step s) fun s8 => some (x1, s8) else bnd (f_X8_fail 4 s) fun s10 => some (0, s10))) else bnd (f_X8_fail 1 s) fun s12 => some (0, s12))
set_option maxRecDepth 20000 in
set_option maxHeartbeats 2000000 in
theorem t_X8_takeNumber (v1 : Int32) (v2 : Int32) (s : HS) {x : Int32} {t : HS} (hf : f_X8_takeNumber  v1 v2 s = some (x, t)) : Mt DDX8_takeNumber miX8_takeNumber [.ref 36, .int v1, .int v2] NF (hp s) (some (.int x)) NF (hp t) := by
  refine Mt.of (by decide +kernel) (Nat.le_refl _) (Nat.le_of_ble_eq_true rfl) ?_
  show Ev DDX8_takeNumber miX8_takeNumber NF (some (.int x)) NF (hp t) 0 NF [(0, .ref 36), (1, .int v1), (2, .int v2)] [] (hp s)
  unfold f_X8_takeNumber at hf
  refine e_aload_n dX8_takeNumber_0 0 rfl rfl (pc2 := 1) rfl ?_
  refine e_getI fl_X8_71 dX8_takeNumber_1 so_36 (by decide) (pc2 := 4) rfl ?_
  obtain ⟨x1, ex1, hf⟩ := ltb_s hf
  refine e_istore_n dX8_takeNumber_4 rfl (by decide) ex1.symm (ls' := [(0, .ref 36), (1, .int v1), (2, .int v2), (3, .int x1)]) [1, 2, 3, 0] rfl (pc2 := 5) rfl ?_
  refine e_aload_n dX8_takeNumber_5 0 rfl rfl (pc2 := 6) rfl ?_
  refine e_getI fl_X8_30 dX8_takeNumber_6 so_36 (by decide) (pc2 := 9) rfl ?_
  refine e_iconst (x := 2) dX8_takeNumber_9 (by decide) (pc2 := 10) rfl ?_
  refine e_icmp_eq (tgt := 21) dX8_takeNumber_10 (by decide) (pc2 := 13) rfl (fun c2 => ?_) (fun c2 => ?_)
  · have hf := if_t c2 hf
    refine e_iload_n dX8_takeNumber_21 3 rfl rfl (pc2 := 22) rfl ?_
    refine e_iload_n dX8_takeNumber_22 1 rfl rfl (pc2 := 23) rfl ?_
    refine e_icmp_lt (tgt := 31) dX8_takeNumber_23 (by decide) (pc2 := 26) rfl (fun c3 => ?_) (fun c3 => ?_)
    · have hf := if_t c3 hf
      refine e_aload_n dX8_takeNumber_31 0 rfl rfl (pc2 := 32) rfl ?_
      refine e_iconst (x := 4) dX8_takeNumber_32 (by decide) (pc2 := 33) rfl ?_
      obtain ⟨s5, hy4, hf⟩ := bnd_s hf
      refine e_callVn (t_X8_fail 4 s hy4) dX8_takeNumber_33 cv_X8_77 rfl so_36 rc_8 (by decide) (by first | exact Nat.le_of_ble_eq_true rfl | simp [rva_cat, vc_i, vc_r, vc_l, vc_n]) nn0 rfl (pc2 := 36) rfl ?_
      refine e_goto (tgt := 45) dX8_takeNumber_36 (by decide) ?_
      refine e_iconst (x := 0) dX8_takeNumber_45 (by decide) (pc2 := 46) rfl ?_
      cases hf
      exact e_iret rfl dX8_takeNumber_46
    · have hf := if_f c3 hf
      refine e_iload_n dX8_takeNumber_26 3 rfl rfl (pc2 := 27) rfl ?_
      refine e_iload_n dX8_takeNumber_27 2 rfl rfl (pc2 := 28) rfl ?_
      refine e_icmp_le (tgt := 39) dX8_takeNumber_28 (by decide) (pc2 := 31) rfl (fun c6 => ?_) (fun c6 => ?_)
      · have hf := if_t c6 hf
        refine e_aload_n dX8_takeNumber_39 0 rfl rfl (pc2 := 40) rfl ?_
        obtain ⟨s8, hy7, hf⟩ := bnd_s hf
        refine e_callVn (t_X8_step  s hy7) dX8_takeNumber_40 cv_X8_27 rfl so_36 rc_8 (by decide) (by first | exact Nat.le_of_ble_eq_true rfl | simp [rva_cat, vc_i, vc_r, vc_l, vc_n]) nn0 rfl (pc2 := 43) rfl ?_
        refine e_iload_n dX8_takeNumber_43 3 rfl rfl (pc2 := 44) rfl ?_
        cases hf
        exact e_iret rfl dX8_takeNumber_44
      · have hf := if_f c6 hf
        refine e_aload_n dX8_takeNumber_31 0 rfl rfl (pc2 := 32) rfl ?_
        refine e_iconst (x := 4) dX8_takeNumber_32 (by decide) (pc2 := 33) rfl ?_
        obtain ⟨s10, hy9, hf⟩ := bnd_s hf
        refine e_callVn (t_X8_fail 4 s hy9) dX8_takeNumber_33 cv_X8_77 rfl so_36 rc_8 (by decide) (by first | exact Nat.le_of_ble_eq_true rfl | simp [rva_cat, vc_i, vc_r, vc_l, vc_n]) nn0 rfl (pc2 := 36) rfl ?_
        refine e_goto (tgt := 45) dX8_takeNumber_36 (by decide) ?_
        refine e_iconst (x := 0) dX8_takeNumber_45 (by decide) (pc2 := 46) rfl ?_
        cases hf
        exact e_iret rfl dX8_takeNumber_46
  · have hf := if_f c2 hf
    refine e_aload_n dX8_takeNumber_13 0 rfl rfl (pc2 := 14) rfl ?_
    refine e_iconst (x := 1) dX8_takeNumber_14 (by decide) (pc2 := 15) rfl ?_
    obtain ⟨s12, hy11, hf⟩ := bnd_s hf
    refine e_callVn (t_X8_fail 1 s hy11) dX8_takeNumber_15 cv_X8_77 rfl so_36 rc_8 (by decide) (by first | exact Nat.le_of_ble_eq_true rfl | simp [rva_cat, vc_i, vc_r, vc_l, vc_n]) nn0 rfl (pc2 := 18) rfl ?_
    refine e_goto (tgt := 45) dX8_takeNumber_18 (by decide) ?_
    refine e_iconst (x := 0) dX8_takeNumber_45 (by decide) (pc2 := 46) rfl ?_
    cases hf
    exact e_iret rfl dX8_takeNumber_46
abbrev DDX4_thingOf : Nat := 1
def f_X4_thingOf_l2b (v0 : Nat) (v1 : Int64) (v3 : Int32) (k2 : Int32 → Option Int32) (s : HS) : Option Int32 :=
  (if (s.1 v0 12) ≤ v3 then some (-1) else gd (inb v3 5) ((if (lg_cmp (s.2.1 (Rf (Rf v0 13) v3.toNatClampNeg) 0) v1) = 0 then some v3 else ltb (v3 + 1) fun x4 => k2 x4)))
set_option maxRecDepth 20000 in
set_option maxHeartbeats 2000000 in
theorem t_X4_thingOf_l2b (v0 : Nat) (v1 : Int64) (v3 : Int32) (hv0 : okX4 v0 = true) (s : HS) {x : Int32} (k2 : Int32 → Option Int32) (hk2 : ∀ (a3 : Int32), k2 a3 = some x → Ev DDX4_thingOf miX4_thingOf NF (some (.int x)) NF (hp s) 2 NF [(0, .ref v0), (1, .long v1), (3, .int a3)] [] (hp s)) (hf : f_X4_thingOf_l2b v0 v1 v3 k2 s = some x) : Ev DDX4_thingOf miX4_thingOf NF (some (.int x)) NF (hp s) 2 NF [(0, .ref v0), (1, .long v1), (3, .int v3)] [] (hp s) := by
  refine e_iload_n dX4_thingOf_2 2 rfl rfl (pc2 := 3) rfl ?_
  refine e_aload_n dX4_thingOf_3 0 rfl rfl (pc2 := 4) rfl ?_
  refine e_getI fl_X4_74 dX4_thingOf_4 (okX4_o hv0) (by decide) (pc2 := 7) rfl ?_
  refine e_icmp_ge (tgt := 32) dX4_thingOf_7 (by decide) (pc2 := 10) rfl (fun c1 => ?_) (fun c1 => ?_)
  · have hf := if_t c1 hf
    refine e_iconst (x := (-1)) dX4_thingOf_32 (by decide) (pc2 := 33) rfl ?_
    cases hf
    exact e_iret rfl dX4_thingOf_33
  · have hf := if_f c1 hf
    refine e_aload_n dX4_thingOf_10 0 rfl rfl (pc2 := 11) rfl ?_
    refine e_getR (r := Rf v0 13) fl_X4_31 dX4_thingOf_11 (okX4_o hv0) (okX4_R hv0) (isA_ne (okX4_thing hv0)) (pc2 := 14) rfl ?_
    refine e_iload_n dX4_thingOf_14 2 rfl rfl (pc2 := 15) rfl ?_
    obtain ⟨g2, hf⟩ := gd_some hf
    refine e_aald (r := Rf (Rf v0 13) v3.toNatClampNeg) dX4_thingOf_15 (okX4_thing hv0) (by decide) (inb_v g2) (Rs_na (q := s.2.2) (okX4_thing hv0) (by decide)) (okX9_ne (okX4_thing_el hv0 (inb_v g2))) (pc2 := 16) rfl ?_
    refine e_getL fl_X4_80 dX4_thingOf_16 (okX9_o (okX4_thing_el hv0 (inb_v g2))) rfl (pc2 := 19) rfl ?_
    refine e_lload_n dX4_thingOf_19 1 rfl rfl (pc2 := 20) rfl ?_
    refine e_lcmp dX4_thingOf_20 (pc2 := 21) rfl ?_
    refine e_if_ne (tgt := 26) dX4_thingOf_21 (by decide) (pc2 := 24) rfl (fun c3 => ?_) (fun c3 => ?_)
    · have hf := if_f c3 hf
      obtain ⟨x4, ex4, hf⟩ := ltb_s hf
      refine e_iinc dX4_thingOf_26 2 rfl (c9 := 1) (by decide) ex4.symm (by decide) (ls' := [(0, .ref v0), (1, .long v1), (3, .int x4)]) [1, 2, 0] rfl (pc2 := 29) rfl ?_
      refine e_goto (tgt := 2) dX4_thingOf_29 (by decide) ?_
      exact hk2 x4 hf
    · have hf := if_t c3 hf
      refine e_iload_n dX4_thingOf_24 2 rfl rfl (pc2 := 25) rfl ?_
      cases hf
      exact e_iret rfl dX4_thingOf_25
def f_X4_thingOf_l2 (v0 : Nat) (v1 : Int64) (s : HS) : Nat → Int32 → Option Int32
  | 0, _ => none
  | n + 1, v3 => f_X4_thingOf_l2b v0 v1 v3 (f_X4_thingOf_l2 v0 v1 s n)  s
set_option maxRecDepth 20000 in
set_option maxHeartbeats 2000000 in
theorem t_X4_thingOf_l2 (v0 : Nat) (v1 : Int64) (hv0 : okX4 v0 = true) (s : HS) {x : Int32}  : ∀ (n : Nat) (v3 : Int32), f_X4_thingOf_l2 v0 v1 s n v3 = some x → Ev DDX4_thingOf miX4_thingOf NF (some (.int x)) NF (hp s) 2 NF [(0, .ref v0), (1, .long v1), (3, .int v3)] [] (hp s) := by
  intro n
  induction n with
  | zero =>
    intro v3 hf
    have hf : none = some x := hf
    cases hf
  | succ n ih =>
    intro v3 hf
    exact t_X4_thingOf_l2b v0 v1 v3 hv0 s _ ih  hf
def f_X4_thingOf (p : Nat) (v1 : Int64) (s : HS) : Option Int32 :=
  f_X4_thingOf_l2 p v1 s FU 0
set_option maxRecDepth 20000 in
set_option maxHeartbeats 2000000 in
theorem t_X4_thingOf (p : Nat) (hp_ : okX4 p = true) (v1 : Int64) (s : HS) {x : Int32} (hf : f_X4_thingOf  p v1 s = some x) : Mt DDX4_thingOf miX4_thingOf [.ref p, .long v1] NF (hp s) (some (.int x)) NF (hp s) := by
  refine Mt.of (by decide +kernel) (Nat.le_refl _) (Nat.le_of_ble_eq_true rfl) ?_
  show Ev DDX4_thingOf miX4_thingOf NF (some (.int x)) NF (hp s) 0 NF [(0, .ref p), (1, .long v1)] [] (hp s)
  unfold f_X4_thingOf at hf
  refine e_iconst (x := 0) dX4_thingOf_0 (by decide) (pc2 := 1) rfl ?_
  refine e_istore_n dX4_thingOf_1 rfl (by decide) rfl (ls' := [(0, .ref p), (1, .long v1), (3, .int 0)]) [1, 2, 0] rfl (pc2 := 2) rfl ?_
  refine t_X4_thingOf_l2 p v1 hp_ s FU 0 hf
abbrev DDX8_isName : Nat := 1
def f_X8_isName  (s : HS) : Option Int32 :=
  (if (s.1 36 4) = 1 then gd (wob (s.2.2.2.2.2.2)) ((if (s.2.2.2.2.2.2) = 0 then some 1 else gd (wob (s.2.2.2.2.2.2)) (gd (woc (s.2.2.2.2.2.2)) ((if (onceL.getD (s.2.2.2.2.2.2 - 1000) 0) = (-1) then some 1 else some 0))))) else some 0)
set_option maxRecDepth 20000 in
set_option maxHeartbeats 2000000 in
theorem t_X8_isName  (s : HS) {x : Int32} (hf : f_X8_isName  s = some x) : Mt DDX8_isName miX8_isName [.ref 36] NF (hp s) (some (.int x)) NF (hp s) := by
  refine Mt.of (by decide +kernel) (Nat.le_refl _) (Nat.le_of_ble_eq_true rfl) ?_
  show Ev DDX8_isName miX8_isName NF (some (.int x)) NF (hp s) 0 NF [(0, .ref 36)] [] (hp s)
  unfold f_X8_isName at hf
  refine e_aload_n dX8_isName_0 0 rfl rfl (pc2 := 1) rfl ?_
  refine e_getI fl_X8_30 dX8_isName_1 so_36 (by decide) (pc2 := 4) rfl ?_
  refine e_iconst (x := 1) dX8_isName_4 (by decide) (pc2 := 5) rfl ?_
  refine e_icmp_ne (tgt := 30) dX8_isName_5 (by decide) (pc2 := 8) rfl (fun c1 => ?_) (fun c1 => ?_)
  · have hf := if_f c1 hf
    refine e_iconst (x := 0) dX8_isName_30 (by decide) (pc2 := 31) rfl ?_
    cases hf
    exact e_zret (by decide) rfl dX8_isName_31
  · have hf := if_t c1 hf
    refine e_aload_n dX8_isName_8 0 rfl rfl (pc2 := 9) rfl ?_
    obtain ⟨g2, hf⟩ := gd_some hf
    refine e_getQ (w := s.2.2.2.2.2.2) fl_X8_36 dX8_isName_9 so_36 rfl (pc2 := 12) rfl ?_
    refine e_ifnullQ (tgt := 26) dX8_isName_12 (by decide) (w := s.2.2.2.2.2.2) (pc2 := 15) rfl (fun c3 => ?_) (fun c3 => ?_)
    · have hf := if_t c3 hf
      refine e_iconst (x := 1) dX8_isName_26 (by decide) (pc2 := 27) rfl ?_
      refine e_goto (tgt := 31) dX8_isName_27 (by decide) ?_
      cases hf
      exact e_zret (by decide) rfl dX8_isName_31
    · have hf := if_f c3 hf
      refine e_aload_n dX8_isName_15 0 rfl rfl (pc2 := 16) rfl ?_
      obtain ⟨g4, hf⟩ := gd_some hf
      refine e_getQ (w := s.2.2.2.2.2.2) fl_X8_36 dX8_isName_16 so_36 rfl (pc2 := 19) rfl ?_
      obtain ⟨g5, hf⟩ := gd_some hf
      refine e_getEoQ (w := s.2.2.2.2.2.2) g5 dX8_isName_19 eo_X8_74 (pc2 := 22) rfl ?_
      refine e_iconst (x := (-1)) dX8_isName_22 (by decide) (pc2 := 23) rfl ?_
      refine e_icmp_ne (tgt := 30) dX8_isName_23 (by decide) (pc2 := 26) rfl (fun c6 => ?_) (fun c6 => ?_)
      · have hf := if_f c6 hf
        refine e_iconst (x := 0) dX8_isName_30 (by decide) (pc2 := 31) rfl ?_
        cases hf
        exact e_zret (by decide) rfl dX8_isName_31
      · have hf := if_t c6 hf
        refine e_iconst (x := 1) dX8_isName_26 (by decide) (pc2 := 27) rfl ?_
        refine e_goto (tgt := 31) dX8_isName_27 (by decide) ?_
        cases hf
        exact e_zret (by decide) rfl dX8_isName_31
abbrev DDX8_takeKnown : Nat := 6
def f_X8_takeKnown (v1 : Int32) (s : HS) : Option (Int32 × HS) :=
  bnd (f_X8_isName s) fun y1 => (if y1 = 0 then bnd (f_X8_fail 1 s) fun s9 => some (0, s9) else (if 0 ≤ v1 then bnd (f_X8_step s) fun s5 => some (v1, s5) else bnd (f_X8_fail 2 s) fun s7 => some (0, s7)))
set_option maxRecDepth 20000 in
set_option maxHeartbeats 2000000 in
theorem t_X8_takeKnown (v1 : Int32) (s : HS) {x : Int32} {t : HS} (hf : f_X8_takeKnown  v1 s = some (x, t)) : Mt DDX8_takeKnown miX8_takeKnown [.ref 36, .int v1] NF (hp s) (some (.int x)) NF (hp t) := by
  refine Mt.of (by decide +kernel) (Nat.le_refl _) (Nat.le_of_ble_eq_true rfl) ?_
  show Ev DDX8_takeKnown miX8_takeKnown NF (some (.int x)) NF (hp t) 0 NF [(0, .ref 36), (1, .int v1)] [] (hp s)
  unfold f_X8_takeKnown at hf
  refine e_aload_n dX8_takeKnown_0 0 rfl rfl (pc2 := 1) rfl ?_
  obtain ⟨y1, hy1, hf⟩ := bnd_s hf
  refine e_callVs (t_X8_isName  s hy1) dX8_takeKnown_1 cv_X8_89 rfl so_36 rc_8 (by decide) (by first | exact Nat.le_of_ble_eq_true rfl | simp [rva_cat, vc_i, vc_r, vc_l, vc_n]) nn0 rfl (pc2 := 4) rfl ?_
  refine e_if_ne (tgt := 15) dX8_takeKnown_4 (by decide) (pc2 := 7) rfl (fun c2 => ?_) (fun c2 => ?_)
  · have hf := if_f c2 hf
    refine e_iload_n dX8_takeKnown_15 1 rfl rfl (pc2 := 16) rfl ?_
    refine e_if_ge (tgt := 27) dX8_takeKnown_16 (by decide) (pc2 := 19) rfl (fun c3 => ?_) (fun c3 => ?_)
    · have hf := if_t c3 hf
      refine e_aload_n dX8_takeKnown_27 0 rfl rfl (pc2 := 28) rfl ?_
      obtain ⟨s5, hy4, hf⟩ := bnd_s hf
      refine e_callVn (t_X8_step  s hy4) dX8_takeKnown_28 cv_X8_27 rfl so_36 rc_8 (by decide) (by first | exact Nat.le_of_ble_eq_true rfl | simp [rva_cat, vc_i, vc_r, vc_l, vc_n]) nn0 rfl (pc2 := 31) rfl ?_
      refine e_iload_n dX8_takeKnown_31 1 rfl rfl (pc2 := 32) rfl ?_
      cases hf
      exact e_iret rfl dX8_takeKnown_32
    · have hf := if_f c3 hf
      refine e_aload_n dX8_takeKnown_19 0 rfl rfl (pc2 := 20) rfl ?_
      refine e_iconst (x := 2) dX8_takeKnown_20 (by decide) (pc2 := 21) rfl ?_
      obtain ⟨s7, hy6, hf⟩ := bnd_s hf
      refine e_callVn (t_X8_fail 2 s hy6) dX8_takeKnown_21 cv_X8_77 rfl so_36 rc_8 (by decide) (by first | exact Nat.le_of_ble_eq_true rfl | simp [rva_cat, vc_i, vc_r, vc_l, vc_n]) nn0 rfl (pc2 := 24) rfl ?_
      refine e_goto (tgt := 33) dX8_takeKnown_24 (by decide) ?_
      refine e_iconst (x := 0) dX8_takeKnown_33 (by decide) (pc2 := 34) rfl ?_
      cases hf
      exact e_iret rfl dX8_takeKnown_34
  · have hf := if_t c2 hf
    refine e_aload_n dX8_takeKnown_7 0 rfl rfl (pc2 := 8) rfl ?_
    refine e_iconst (x := 1) dX8_takeKnown_8 (by decide) (pc2 := 9) rfl ?_
    obtain ⟨s9, hy8, hf⟩ := bnd_s hf
    refine e_callVn (t_X8_fail 1 s hy8) dX8_takeKnown_9 cv_X8_77 rfl so_36 rc_8 (by decide) (by first | exact Nat.le_of_ble_eq_true rfl | simp [rva_cat, vc_i, vc_r, vc_l, vc_n]) nn0 rfl (pc2 := 12) rfl ?_
    refine e_goto (tgt := 33) dX8_takeKnown_12 (by decide) ?_
    refine e_iconst (x := 0) dX8_takeKnown_33 (by decide) (pc2 := 34) rfl ?_
    cases hf
    exact e_iret rfl dX8_takeKnown_34
abbrev DDX4_buyerOf : Nat := 1
def f_X4_buyerOf_l2b (v0 : Nat) (v1 : Int64) (v3 : Int32) (k2 : Int32 → Option Int32) (s : HS) : Option Int32 :=
  (if (s.1 v0 14) ≤ v3 then some (-1) else gd (inb v3 6) ((if (lg_cmp (s.2.1 (Rf (Rf v0 15) v3.toNatClampNeg) 0) v1) = 0 then some v3 else ltb (v3 + 1) fun x4 => k2 x4)))
set_option maxRecDepth 20000 in
set_option maxHeartbeats 2000000 in
theorem t_X4_buyerOf_l2b (v0 : Nat) (v1 : Int64) (v3 : Int32) (hv0 : okX4 v0 = true) (s : HS) {x : Int32} (k2 : Int32 → Option Int32) (hk2 : ∀ (a3 : Int32), k2 a3 = some x → Ev DDX4_buyerOf miX4_buyerOf NF (some (.int x)) NF (hp s) 2 NF [(0, .ref v0), (1, .long v1), (3, .int a3)] [] (hp s)) (hf : f_X4_buyerOf_l2b v0 v1 v3 k2 s = some x) : Ev DDX4_buyerOf miX4_buyerOf NF (some (.int x)) NF (hp s) 2 NF [(0, .ref v0), (1, .long v1), (3, .int v3)] [] (hp s) := by
  refine e_iload_n dX4_buyerOf_2 2 rfl rfl (pc2 := 3) rfl ?_
  refine e_aload_n dX4_buyerOf_3 0 rfl rfl (pc2 := 4) rfl ?_
  refine e_getI fl_X4_77 dX4_buyerOf_4 (okX4_o hv0) (by decide) (pc2 := 7) rfl ?_
  refine e_icmp_ge (tgt := 32) dX4_buyerOf_7 (by decide) (pc2 := 10) rfl (fun c1 => ?_) (fun c1 => ?_)
  · have hf := if_t c1 hf
    refine e_iconst (x := (-1)) dX4_buyerOf_32 (by decide) (pc2 := 33) rfl ?_
    cases hf
    exact e_iret rfl dX4_buyerOf_33
  · have hf := if_f c1 hf
    refine e_aload_n dX4_buyerOf_10 0 rfl rfl (pc2 := 11) rfl ?_
    refine e_getR (r := Rf v0 15) fl_X4_37 dX4_buyerOf_11 (okX4_o hv0) (okX4_R hv0) (isA_ne (okX4_buyer hv0)) (pc2 := 14) rfl ?_
    refine e_iload_n dX4_buyerOf_14 2 rfl rfl (pc2 := 15) rfl ?_
    obtain ⟨g2, hf⟩ := gd_some hf
    refine e_aald (r := Rf (Rf v0 15) v3.toNatClampNeg) dX4_buyerOf_15 (okX4_buyer hv0) (by decide) (inb_v g2) (Rs_na (q := s.2.2) (okX4_buyer hv0) (by decide)) (okX0_ne (okX4_buyer_el hv0 (inb_v g2))) (pc2 := 16) rfl ?_
    refine e_getL fl_X4_84 dX4_buyerOf_16 (okX0_o (okX4_buyer_el hv0 (inb_v g2))) rfl (pc2 := 19) rfl ?_
    refine e_lload_n dX4_buyerOf_19 1 rfl rfl (pc2 := 20) rfl ?_
    refine e_lcmp dX4_buyerOf_20 (pc2 := 21) rfl ?_
    refine e_if_ne (tgt := 26) dX4_buyerOf_21 (by decide) (pc2 := 24) rfl (fun c3 => ?_) (fun c3 => ?_)
    · have hf := if_f c3 hf
      obtain ⟨x4, ex4, hf⟩ := ltb_s hf
      refine e_iinc dX4_buyerOf_26 2 rfl (c9 := 1) (by decide) ex4.symm (by decide) (ls' := [(0, .ref v0), (1, .long v1), (3, .int x4)]) [1, 2, 0] rfl (pc2 := 29) rfl ?_
      refine e_goto (tgt := 2) dX4_buyerOf_29 (by decide) ?_
      exact hk2 x4 hf
    · have hf := if_t c3 hf
      refine e_iload_n dX4_buyerOf_24 2 rfl rfl (pc2 := 25) rfl ?_
      cases hf
      exact e_iret rfl dX4_buyerOf_25
def f_X4_buyerOf_l2 (v0 : Nat) (v1 : Int64) (s : HS) : Nat → Int32 → Option Int32
  | 0, _ => none
  | n + 1, v3 => f_X4_buyerOf_l2b v0 v1 v3 (f_X4_buyerOf_l2 v0 v1 s n)  s
set_option maxRecDepth 20000 in
set_option maxHeartbeats 2000000 in
theorem t_X4_buyerOf_l2 (v0 : Nat) (v1 : Int64) (hv0 : okX4 v0 = true) (s : HS) {x : Int32}  : ∀ (n : Nat) (v3 : Int32), f_X4_buyerOf_l2 v0 v1 s n v3 = some x → Ev DDX4_buyerOf miX4_buyerOf NF (some (.int x)) NF (hp s) 2 NF [(0, .ref v0), (1, .long v1), (3, .int v3)] [] (hp s) := by
  intro n
  induction n with
  | zero =>
    intro v3 hf
    have hf : none = some x := hf
    cases hf
  | succ n ih =>
    intro v3 hf
    exact t_X4_buyerOf_l2b v0 v1 v3 hv0 s _ ih  hf
def f_X4_buyerOf (p : Nat) (v1 : Int64) (s : HS) : Option Int32 :=
  f_X4_buyerOf_l2 p v1 s FU 0
set_option maxRecDepth 20000 in
set_option maxHeartbeats 2000000 in
theorem t_X4_buyerOf (p : Nat) (hp_ : okX4 p = true) (v1 : Int64) (s : HS) {x : Int32} (hf : f_X4_buyerOf  p v1 s = some x) : Mt DDX4_buyerOf miX4_buyerOf [.ref p, .long v1] NF (hp s) (some (.int x)) NF (hp s) := by
  refine Mt.of (by decide +kernel) (Nat.le_refl _) (Nat.le_of_ble_eq_true rfl) ?_
  show Ev DDX4_buyerOf miX4_buyerOf NF (some (.int x)) NF (hp s) 0 NF [(0, .ref p), (1, .long v1)] [] (hp s)
  unfold f_X4_buyerOf at hf
  refine e_iconst (x := 0) dX4_buyerOf_0 (by decide) (pc2 := 1) rfl ?_
  refine e_istore_n dX4_buyerOf_1 rfl (by decide) rfl (ls' := [(0, .ref p), (1, .long v1), (3, .int 0)]) [1, 2, 0] rfl (pc2 := 2) rfl ?_
  refine t_X4_buyerOf_l2 p v1 hp_ s FU 0 hf
abbrev DDX1_readLine : Nat := 7
def f_X1_readLine_j212 (v2 : Int32) (v4 : Int32) (v5 : Int32) (s : HS) : Option HS :=
  bnd (f_X1_keepLine v2 v4 v5 s) fun s16 => bnd (f_X8_takeSign 59 s16) fun s18 => some s18
set_option maxRecDepth 20000 in
set_option maxHeartbeats 2000000 in
theorem t_X1_readLine_j212 (v2 : Int32) (v4 : Int32) (v5 : Int32) (s : HS) {t : HS}  (hf : f_X1_readLine_j212 v2 v4 v5 s = some t) : Ev DDX1_readLine miX1_readLine NF none NF (hp t) 212 NF [(0, .ref 71), (2, .int v2), (4, .int v4), (5, .int v5)] [] (hp s) := by
  refine e_aload_n dX1_readLine_212 0 rfl rfl (pc2 := 213) rfl ?_
  refine e_iload_n dX1_readLine_213 1 rfl rfl (pc2 := 214) rfl ?_
  refine e_iload dX1_readLine_214 2 rfl (pc2 := 216) rfl ?_
  refine e_iload dX1_readLine_216 3 rfl (pc2 := 218) rfl ?_
  obtain ⟨s16, hy15, hf⟩ := bnd_s hf
  refine e_callVn (t_X1_keepLine v2 v4 v5 s hy15) dX1_readLine_218 cv_X1_81 rfl so_71 rc_1 (by decide) (by first | exact Nat.le_of_ble_eq_true rfl | simp [rva_cat, vc_i, vc_r, vc_l, vc_n]) nn0 rfl (pc2 := 221) rfl ?_
  refine e_aload_n dX1_readLine_221 0 rfl rfl (pc2 := 222) rfl ?_
  refine e_getR (r := 36) fl_X1_15 dX1_readLine_222 so_71 (rs_71_0 s16.2.2) (by decide) (pc2 := 225) rfl ?_
  refine e_bipush (x := 59) dX1_readLine_225 (by decide) (pc2 := 227) rfl ?_
  obtain ⟨s18, hy17, hf⟩ := bnd_s hf
  refine e_callVn (t_X8_takeSign 59 s16 hy17) dX1_readLine_227 cv_X1_85 rfl so_36 rc_8 (by decide) (by first | exact Nat.le_of_ble_eq_true rfl | simp [rva_cat, vc_i, vc_r, vc_l, vc_n]) nn0 rfl (pc2 := 230) rfl ?_
  cases hf
  exact e_vret rfl dX1_readLine_230
def f_X1_readLine_j85 (v1 : Nat) (v2 : Int32) (v4 : Int32) (w0 : Int32) (s : HS) : Option HS :=
  (if v2 = 3 then bnd (f_X4_buyerOf v1 (s.2.1 36 5) s) fun y30 => bnd2 (f_X8_takeKnown y30 s) fun y31 s32 => f_X1_readLine_j212 v2 y31 w0 s32 else (if v2 = 4 then bnd (f_X4_thingOf v1 (s.2.1 36 5) s) fun y25 => bnd2 (f_X8_takeKnown y25 s) fun y26 s27 => bnd2 (f_X8_takeNumber 0 99 s27) fun y28 s29 => f_X1_readLine_j212 v2 y26 y28 s29 else (if v2 = 0 then bnd2 (f_X8_takeNumber 1 900 s) fun y23 s24 => f_X1_readLine_j212 v2 v4 y23 s24 else (if v2 = 1 then bnd2 (f_X8_takeNumber 0 200 s) fun y21 s22 => f_X1_readLine_j212 v2 v4 y21 s22 else (if v2 = 2 then bnd2 (f_X8_takeNumber 1 2 s) fun y19 s20 => f_X1_readLine_j212 v2 v4 y19 s20 else f_X1_readLine_j212 v2 v4 w0 s)))))
set_option maxRecDepth 20000 in
set_option maxHeartbeats 2000000 in
theorem t_X1_readLine_j85 (v1 : Nat) (v2 : Int32) (v4 : Int32) (w0 : Int32) (hv1 : okX4 v1 = true) (s : HS) {t : HS}  (hf : f_X1_readLine_j85 v1 v2 v4 w0 s = some t) : Ev DDX1_readLine miX1_readLine NF none NF (hp t) 85 NF [(0, .ref 71), (1, .ref v1), (2, .int v2), (4, .int v4)] [.int w0] (hp s) := by
  refine e_istore dX1_readLine_85 (by decide) rfl (ls' := [(0, .ref 71), (1, .ref v1), (2, .int v2), (4, .int v4), (5, .int w0)]) [1, 2, 3, 4, 0] rfl (pc2 := 87) rfl ?_
  refine e_iload_n dX1_readLine_87 2 rfl rfl (pc2 := 88) rfl ?_
  refine e_iconst (x := 3) dX1_readLine_88 (by decide) (pc2 := 89) rfl ?_
  refine e_icmp_ne (tgt := 115) dX1_readLine_89 (by decide) (pc2 := 92) rfl (fun c10 => ?_) (fun c10 => ?_)
  · have hf := if_f c10 hf
    refine e_iload_n dX1_readLine_115 2 rfl rfl (pc2 := 116) rfl ?_
    refine e_iconst (x := 4) dX1_readLine_116 (by decide) (pc2 := 117) rfl ?_
    refine e_icmp_ne (tgt := 155) dX1_readLine_117 (by decide) (pc2 := 120) rfl (fun c11 => ?_) (fun c11 => ?_)
    · have hf := if_f c11 hf
      refine e_iload_n dX1_readLine_155 2 rfl rfl (pc2 := 156) rfl ?_
      refine e_if_ne (tgt := 175) dX1_readLine_156 (by decide) (pc2 := 159) rfl (fun c12 => ?_) (fun c12 => ?_)
      · have hf := if_f c12 hf
        refine e_iload_n dX1_readLine_175 2 rfl rfl (pc2 := 176) rfl ?_
        refine e_iconst (x := 1) dX1_readLine_176 (by decide) (pc2 := 177) rfl ?_
        refine e_icmp_ne (tgt := 196) dX1_readLine_177 (by decide) (pc2 := 180) rfl (fun c13 => ?_) (fun c13 => ?_)
        · have hf := if_f c13 hf
          refine e_iload_n dX1_readLine_196 2 rfl rfl (pc2 := 197) rfl ?_
          refine e_iconst (x := 2) dX1_readLine_197 (by decide) (pc2 := 198) rfl ?_
          refine e_icmp_ne (tgt := 212) dX1_readLine_198 (by decide) (pc2 := 201) rfl (fun c14 => ?_) (fun c14 => ?_)
          · have hf := if_f c14 hf
            refine ev_sub [0, 2, 3, 4] rfl ?_
            exact t_X1_readLine_j212 v2 v4 w0 s hf
          · have hf := if_t c14 hf
            refine e_aload_n dX1_readLine_201 0 rfl rfl (pc2 := 202) rfl ?_
            refine e_getR (r := 36) fl_X1_15 dX1_readLine_202 so_71 (rs_71_0 s.2.2) (by decide) (pc2 := 205) rfl ?_
            refine e_iconst (x := 1) dX1_readLine_205 (by decide) (pc2 := 206) rfl ?_
            refine e_iconst (x := 2) dX1_readLine_206 (by decide) (pc2 := 207) rfl ?_
            obtain ⟨y19, s20, hy19, hf⟩ := bnd2_s hf
            refine e_callVs (t_X8_takeNumber 1 2 s hy19) dX1_readLine_207 cv_X1_77 rfl so_36 rc_8 (by decide) (by first | exact Nat.le_of_ble_eq_true rfl | simp [rva_cat, vc_i, vc_r, vc_l, vc_n]) nn0 rfl (pc2 := 210) rfl ?_
            refine e_istore dX1_readLine_210 (by decide) rfl (ls' := [(0, .ref 71), (2, .int v2), (4, .int v4), (5, .int y19)]) [1, 3, 4, 0] rfl (pc2 := 212) rfl ?_
            exact t_X1_readLine_j212 v2 v4 y19 s20 hf
        · have hf := if_t c13 hf
          refine e_aload_n dX1_readLine_180 0 rfl rfl (pc2 := 181) rfl ?_
          refine e_getR (r := 36) fl_X1_15 dX1_readLine_181 so_71 (rs_71_0 s.2.2) (by decide) (pc2 := 184) rfl ?_
          refine e_iconst (x := 0) dX1_readLine_184 (by decide) (pc2 := 185) rfl ?_
          refine e_sipush (x := 200) dX1_readLine_185 (by decide) (pc2 := 188) rfl ?_
          obtain ⟨y21, s22, hy21, hf⟩ := bnd2_s hf
          refine e_callVs (t_X8_takeNumber 0 200 s hy21) dX1_readLine_188 cv_X1_77 rfl so_36 rc_8 (by decide) (by first | exact Nat.le_of_ble_eq_true rfl | simp [rva_cat, vc_i, vc_r, vc_l, vc_n]) nn0 rfl (pc2 := 191) rfl ?_
          refine e_istore dX1_readLine_191 (by decide) rfl (ls' := [(0, .ref 71), (2, .int v2), (4, .int v4), (5, .int y21)]) [1, 3, 4, 0] rfl (pc2 := 193) rfl ?_
          refine e_goto (tgt := 212) dX1_readLine_193 (by decide) ?_
          exact t_X1_readLine_j212 v2 v4 y21 s22 hf
      · have hf := if_t c12 hf
        refine e_aload_n dX1_readLine_159 0 rfl rfl (pc2 := 160) rfl ?_
        refine e_getR (r := 36) fl_X1_15 dX1_readLine_160 so_71 (rs_71_0 s.2.2) (by decide) (pc2 := 163) rfl ?_
        refine e_iconst (x := 1) dX1_readLine_163 (by decide) (pc2 := 164) rfl ?_
        refine e_sipush (x := 900) dX1_readLine_164 (by decide) (pc2 := 167) rfl ?_
        obtain ⟨y23, s24, hy23, hf⟩ := bnd2_s hf
        refine e_callVs (t_X8_takeNumber 1 900 s hy23) dX1_readLine_167 cv_X1_77 rfl so_36 rc_8 (by decide) (by first | exact Nat.le_of_ble_eq_true rfl | simp [rva_cat, vc_i, vc_r, vc_l, vc_n]) nn0 rfl (pc2 := 170) rfl ?_
        refine e_istore dX1_readLine_170 (by decide) rfl (ls' := [(0, .ref 71), (2, .int v2), (4, .int v4), (5, .int y23)]) [1, 3, 4, 0] rfl (pc2 := 172) rfl ?_
        refine e_goto (tgt := 212) dX1_readLine_172 (by decide) ?_
        exact t_X1_readLine_j212 v2 v4 y23 s24 hf
    · have hf := if_t c11 hf
      refine e_aload_n dX1_readLine_120 0 rfl rfl (pc2 := 121) rfl ?_
      refine e_getR (r := 36) fl_X1_15 dX1_readLine_121 so_71 (rs_71_0 s.2.2) (by decide) (pc2 := 124) rfl ?_
      refine e_aload_n dX1_readLine_124 1 rfl rfl (pc2 := 125) rfl ?_
      refine e_aload_n dX1_readLine_125 0 rfl rfl (pc2 := 126) rfl ?_
      refine e_getR (r := 36) fl_X1_15 dX1_readLine_126 so_71 (rs_71_0 s.2.2) (by decide) (pc2 := 129) rfl ?_
      refine e_getL fl_X1_60 dX1_readLine_129 so_36 rfl (pc2 := 132) rfl ?_
      obtain ⟨y25, hy25, hf⟩ := bnd_s hf
      refine e_callVs (t_X4_thingOf v1 hv1 (s.2.1 36 5) s hy25) dX1_readLine_132 cv_X1_74 rfl (okX4_o hv1) rc_4 (by decide) (by first | exact Nat.le_of_ble_eq_true rfl | simp [rva_cat, vc_i, vc_r, vc_l, vc_n]) nn0 rfl (pc2 := 135) rfl ?_
      obtain ⟨y26, s27, hy26, hf⟩ := bnd2_s hf
      refine e_callVs (t_X8_takeKnown y25 s hy26) dX1_readLine_135 cv_X1_70 rfl so_36 rc_8 (by decide) (by first | exact Nat.le_of_ble_eq_true rfl | simp [rva_cat, vc_i, vc_r, vc_l, vc_n]) nn0 rfl (pc2 := 138) rfl ?_
      refine e_istore dX1_readLine_138 (by decide) rfl (ls' := [(0, .ref 71), (2, .int v2), (4, .int y26)]) [1, 3, 0] rfl (pc2 := 140) rfl ?_
      refine e_aload_n dX1_readLine_140 0 rfl rfl (pc2 := 141) rfl ?_
      refine e_getR (r := 36) fl_X1_15 dX1_readLine_141 so_71 (rs_71_0 s27.2.2) (by decide) (pc2 := 144) rfl ?_
      refine e_iconst (x := 0) dX1_readLine_144 (by decide) (pc2 := 145) rfl ?_
      refine e_bipush (x := 99) dX1_readLine_145 (by decide) (pc2 := 147) rfl ?_
      obtain ⟨y28, s29, hy28, hf⟩ := bnd2_s hf
      refine e_callVs (t_X8_takeNumber 0 99 s27 hy28) dX1_readLine_147 cv_X1_77 rfl so_36 rc_8 (by decide) (by first | exact Nat.le_of_ble_eq_true rfl | simp [rva_cat, vc_i, vc_r, vc_l, vc_n]) nn0 rfl (pc2 := 150) rfl ?_
      refine e_istore dX1_readLine_150 (by decide) rfl (ls' := [(0, .ref 71), (2, .int v2), (4, .int y26), (5, .int y28)]) [1, 2, 3, 0] rfl (pc2 := 152) rfl ?_
      refine e_goto (tgt := 212) dX1_readLine_152 (by decide) ?_
      exact t_X1_readLine_j212 v2 y26 y28 s29 hf
  · have hf := if_t c10 hf
    refine e_aload_n dX1_readLine_92 0 rfl rfl (pc2 := 93) rfl ?_
    refine e_getR (r := 36) fl_X1_15 dX1_readLine_93 so_71 (rs_71_0 s.2.2) (by decide) (pc2 := 96) rfl ?_
    refine e_aload_n dX1_readLine_96 1 rfl rfl (pc2 := 97) rfl ?_
    refine e_aload_n dX1_readLine_97 0 rfl rfl (pc2 := 98) rfl ?_
    refine e_getR (r := 36) fl_X1_15 dX1_readLine_98 so_71 (rs_71_0 s.2.2) (by decide) (pc2 := 101) rfl ?_
    refine e_getL fl_X1_60 dX1_readLine_101 so_36 rfl (pc2 := 104) rfl ?_
    obtain ⟨y30, hy30, hf⟩ := bnd_s hf
    refine e_callVs (t_X4_buyerOf v1 hv1 (s.2.1 36 5) s hy30) dX1_readLine_104 cv_X1_64 rfl (okX4_o hv1) rc_4 (by decide) (by first | exact Nat.le_of_ble_eq_true rfl | simp [rva_cat, vc_i, vc_r, vc_l, vc_n]) nn0 rfl (pc2 := 107) rfl ?_
    obtain ⟨y31, s32, hy31, hf⟩ := bnd2_s hf
    refine e_callVs (t_X8_takeKnown y30 s hy31) dX1_readLine_107 cv_X1_70 rfl so_36 rc_8 (by decide) (by first | exact Nat.le_of_ble_eq_true rfl | simp [rva_cat, vc_i, vc_r, vc_l, vc_n]) nn0 rfl (pc2 := 110) rfl ?_
    refine e_istore dX1_readLine_110 (by decide) rfl (ls' := [(0, .ref 71), (2, .int v2), (4, .int y31), (5, .int w0)]) [1, 3, 0, 4] rfl (pc2 := 112) rfl ?_
    refine e_goto (tgt := 212) dX1_readLine_112 (by decide) ?_
    exact t_X1_readLine_j212 v2 y31 w0 s32 hf
def f_X1_readLine_j29 (v1 : Nat) (v2 : Int32) (w0 : Int32) (s : HS) : Option HS :=
  (if v2 = (-1) then bnd (f_X8_fail 1 s) fun s38 => bnd (f_X8_takeSign 59 s38) fun s40 => some s40 else (if (s.1 71 2) < 40 then bnd (f_X8_step s) fun s8 => (if w0 = 0 then f_X1_readLine_j85 v1 v2 0 0 s8 else f_X1_readLine_j85 v1 v2 0 1 s8) else bnd (f_X8_fail 5 s) fun s34 => bnd (f_X8_takeSign 59 s34) fun s36 => some s36))
set_option maxRecDepth 20000 in
set_option maxHeartbeats 2000000 in
theorem t_X1_readLine_j29 (v1 : Nat) (v2 : Int32) (w0 : Int32) (hv1 : okX4 v1 = true) (s : HS) {t : HS}  (hf : f_X1_readLine_j29 v1 v2 w0 s = some t) : Ev DDX1_readLine miX1_readLine NF none NF (hp t) 29 NF [(0, .ref 71), (1, .ref v1), (2, .int v2)] [.int w0] (hp s) := by
  refine e_istore_n dX1_readLine_29 rfl (by decide) rfl (ls' := [(0, .ref 71), (1, .ref v1), (2, .int v2), (3, .int w0)]) [1, 2, 3, 0] rfl (pc2 := 30) rfl ?_
  refine e_iload_n dX1_readLine_30 2 rfl rfl (pc2 := 31) rfl ?_
  refine e_iconst (x := (-1)) dX1_readLine_31 (by decide) (pc2 := 32) rfl ?_
  refine e_icmp_ne (tgt := 46) dX1_readLine_32 (by decide) (pc2 := 35) rfl (fun c5 => ?_) (fun c5 => ?_)
  · have hf := if_f c5 hf
    refine e_aload_n dX1_readLine_46 0 rfl rfl (pc2 := 47) rfl ?_
    refine e_getI fl_X1_19 dX1_readLine_47 so_71 (by decide) (pc2 := 50) rfl ?_
    refine e_bipush (x := 40) dX1_readLine_50 (by decide) (pc2 := 52) rfl ?_
    refine e_icmp_lt (tgt := 66) dX1_readLine_52 (by decide) (pc2 := 55) rfl (fun c6 => ?_) (fun c6 => ?_)
    · have hf := if_t c6 hf
      refine e_aload_n dX1_readLine_66 0 rfl rfl (pc2 := 67) rfl ?_
      refine e_getR (r := 36) fl_X1_15 dX1_readLine_67 so_71 (rs_71_0 s.2.2) (by decide) (pc2 := 70) rfl ?_
      obtain ⟨s8, hy7, hf⟩ := bnd_s hf
      refine e_callVn (t_X8_step  s hy7) dX1_readLine_70 cv_X1_57 rfl so_36 rc_8 (by decide) (by first | exact Nat.le_of_ble_eq_true rfl | simp [rva_cat, vc_i, vc_r, vc_l, vc_n]) nn0 rfl (pc2 := 73) rfl ?_
      refine e_iconst (x := 0) dX1_readLine_73 (by decide) (pc2 := 74) rfl ?_
      refine e_istore dX1_readLine_74 (by decide) rfl (ls' := [(0, .ref 71), (1, .ref v1), (2, .int v2), (3, .int w0), (4, .int 0)]) [1, 2, 3, 4, 0] rfl (pc2 := 76) rfl ?_
      refine e_iload_n dX1_readLine_76 3 rfl rfl (pc2 := 77) rfl ?_
      refine e_if_eq (tgt := 84) dX1_readLine_77 (by decide) (pc2 := 80) rfl (fun c9 => ?_) (fun c9 => ?_)
      · have hf := if_t c9 hf
        refine e_iconst (x := 0) dX1_readLine_84 (by decide) (pc2 := 85) rfl ?_
        refine ev_sub [0, 1, 2, 4] rfl ?_
        exact t_X1_readLine_j85 v1 v2 0 0 hv1 s8 hf
      · have hf := if_f c9 hf
        refine e_iconst (x := 1) dX1_readLine_80 (by decide) (pc2 := 81) rfl ?_
        refine e_goto (tgt := 85) dX1_readLine_81 (by decide) ?_
        refine ev_sub [0, 1, 2, 4] rfl ?_
        exact t_X1_readLine_j85 v1 v2 0 1 hv1 s8 hf
    · have hf := if_f c6 hf
      refine e_aload_n dX1_readLine_55 0 rfl rfl (pc2 := 56) rfl ?_
      refine e_getR (r := 36) fl_X1_15 dX1_readLine_56 so_71 (rs_71_0 s.2.2) (by decide) (pc2 := 59) rfl ?_
      refine e_iconst (x := 5) dX1_readLine_59 (by decide) (pc2 := 60) rfl ?_
      obtain ⟨s34, hy33, hf⟩ := bnd_s hf
      refine e_callVn (t_X8_fail 5 s hy33) dX1_readLine_60 cv_X1_53 rfl so_36 rc_8 (by decide) (by first | exact Nat.le_of_ble_eq_true rfl | simp [rva_cat, vc_i, vc_r, vc_l, vc_n]) nn0 rfl (pc2 := 63) rfl ?_
      refine e_goto (tgt := 221) dX1_readLine_63 (by decide) ?_
      refine e_aload_n dX1_readLine_221 0 rfl rfl (pc2 := 222) rfl ?_
      refine e_getR (r := 36) fl_X1_15 dX1_readLine_222 so_71 (rs_71_0 s34.2.2) (by decide) (pc2 := 225) rfl ?_
      refine e_bipush (x := 59) dX1_readLine_225 (by decide) (pc2 := 227) rfl ?_
      obtain ⟨s36, hy35, hf⟩ := bnd_s hf
      refine e_callVn (t_X8_takeSign 59 s34 hy35) dX1_readLine_227 cv_X1_85 rfl so_36 rc_8 (by decide) (by first | exact Nat.le_of_ble_eq_true rfl | simp [rva_cat, vc_i, vc_r, vc_l, vc_n]) nn0 rfl (pc2 := 230) rfl ?_
      cases hf
      exact e_vret rfl dX1_readLine_230
  · have hf := if_t c5 hf
    refine e_aload_n dX1_readLine_35 0 rfl rfl (pc2 := 36) rfl ?_
    refine e_getR (r := 36) fl_X1_15 dX1_readLine_36 so_71 (rs_71_0 s.2.2) (by decide) (pc2 := 39) rfl ?_
    refine e_iconst (x := 1) dX1_readLine_39 (by decide) (pc2 := 40) rfl ?_
    obtain ⟨s38, hy37, hf⟩ := bnd_s hf
    refine e_callVn (t_X8_fail 1 s hy37) dX1_readLine_40 cv_X1_53 rfl so_36 rc_8 (by decide) (by first | exact Nat.le_of_ble_eq_true rfl | simp [rva_cat, vc_i, vc_r, vc_l, vc_n]) nn0 rfl (pc2 := 43) rfl ?_
    refine e_goto (tgt := 221) dX1_readLine_43 (by decide) ?_
    refine e_aload_n dX1_readLine_221 0 rfl rfl (pc2 := 222) rfl ?_
    refine e_getR (r := 36) fl_X1_15 dX1_readLine_222 so_71 (rs_71_0 s38.2.2) (by decide) (pc2 := 225) rfl ?_
    refine e_bipush (x := 59) dX1_readLine_225 (by decide) (pc2 := 227) rfl ?_
    obtain ⟨s40, hy39, hf⟩ := bnd_s hf
    refine e_callVn (t_X8_takeSign 59 s38 hy39) dX1_readLine_227 cv_X1_85 rfl so_36 rc_8 (by decide) (by first | exact Nat.le_of_ble_eq_true rfl | simp [rva_cat, vc_i, vc_r, vc_l, vc_n]) nn0 rfl (pc2 := 230) rfl ?_
    cases hf
    exact e_vret rfl dX1_readLine_230
def f_X1_readLine (v1 : Nat) (s : HS) : Option HS :=
  gd (wob (s.2.2.2.2.2.2)) (ltb (f_X1_whatOf (s.2.2.2.2.2.2) s) fun x2 => gd (wob (s.2.2.2.2.2.2)) ((if (s.2.2.2.2.2.2) = 1020 then f_X1_readLine_j29 v1 x2 1 s else f_X1_readLine_j29 v1 x2 0 s)))
set_option maxRecDepth 20000 in
set_option maxHeartbeats 2000000 in
theorem t_X1_readLine (v1 : Nat) (hv1 : okX4 v1 = true) (s : HS) {t : HS} (hf : f_X1_readLine  v1 s = some t) : Mt DDX1_readLine miX1_readLine [.ref 71, .ref v1] NF (hp s) none NF (hp t) := by
  refine Mt.of (by decide +kernel) (Nat.le_refl _) (Nat.le_of_ble_eq_true rfl) ?_
  show Ev DDX1_readLine miX1_readLine NF none NF (hp t) 0 NF [(0, .ref 71), (1, .ref v1)] [] (hp s)
  unfold f_X1_readLine at hf
  refine e_aload_n dX1_readLine_0 0 rfl rfl (pc2 := 1) rfl ?_
  refine e_getR (r := 36) fl_X1_15 dX1_readLine_1 so_71 (rs_71_0 s.2.2) (by decide) (pc2 := 4) rfl ?_
  obtain ⟨g1, hf⟩ := gd_some hf
  refine e_getQ (w := s.2.2.2.2.2.2) fl_X1_40 dX1_readLine_4 so_36 rfl (pc2 := 7) rfl ?_
  refine e_callSs (t_X1_whatOf (s.2.2.2.2.2.2) g1 s rfl) dX1_readLine_7 cs_X1_44 rfl (by decide) (by first | exact Nat.le_of_ble_eq_true rfl | simp [rva_cat, vc_i, vc_r, vc_l, vc_n]) nn0 rfl (pc2 := 10) rfl ?_
  obtain ⟨x2, ex2, hf⟩ := ltb_s hf
  refine e_istore_n dX1_readLine_10 rfl (by decide) ex2.symm (ls' := [(0, .ref 71), (1, .ref v1), (2, .int x2)]) [1, 2, 0] rfl (pc2 := 11) rfl ?_
  refine e_aload_n dX1_readLine_11 0 rfl rfl (pc2 := 12) rfl ?_
  refine e_getR (r := 36) fl_X1_15 dX1_readLine_12 so_71 (rs_71_0 s.2.2) (by decide) (pc2 := 15) rfl ?_
  obtain ⟨g3, hf⟩ := gd_some hf
  refine e_getQ (w := s.2.2.2.2.2.2) fl_X1_40 dX1_readLine_15 so_36 rfl (pc2 := 18) rfl ?_
  refine e_getsE (i := 20) (by decide) dX1_readLine_18 gs_X1_48 (pc2 := 21) rfl ?_
  refine e_acmp_ne (tgt := 28) dX1_readLine_21 (by decide) (w1 := s.2.2.2.2.2.2) (w2 := 1020) g3 (by decide) (pc2 := 24) rfl (fun c4 => ?_) (fun c4 => ?_)
  · have hf := if_f c4 hf
    refine e_iconst (x := 0) dX1_readLine_28 (by decide) (pc2 := 29) rfl ?_
    exact t_X1_readLine_j29 v1 x2 0 hv1 s hf
  · have hf := if_t c4 hf
    refine e_iconst (x := 1) dX1_readLine_24 (by decide) (pc2 := 25) rfl ?_
    refine e_goto (tgt := 29) dX1_readLine_25 (by decide) ?_
    exact t_X1_readLine_j29 v1 x2 1 hv1 s hf
abbrev DDX1_read : Nat := 8
def f_X1_read_l14b (v1 : Nat) (v2 : Int32) (k14 : Int32 → HS → Option (Int32 × HS)) (s : HS) : Option (Int32 × HS) :=
  (if 1000 ≤ v2 then bnd2 (f_X8_finish s) fun y5 s6 => some (y5, s6) else (if (f_X8_goesOn s) = 0 then bnd2 (f_X8_finish s) fun y8 s9 => some (y8, s9) else bnd (f_X1_readLine v1 s) fun s11 => ltb (v2 + 1) fun x12 => k14 x12 s11))
set_option maxRecDepth 20000 in
set_option maxHeartbeats 2000000 in
theorem t_X1_read_l14b (v1 : Nat) (v2 : Int32) (hv1 : okX4 v1 = true) (s : HS) {x : Int32} {t : HS} (k14 : Int32 → HS → Option (Int32 × HS)) (hk14 : ∀ (a2 : Int32) (s : HS), k14 a2 s = some (x, t) → Ev DDX1_read miX1_read NF (some (.int x)) NF (hp t) 14 NF [(0, .ref 71), (1, .ref v1), (2, .int a2)] [] (hp s)) (hf : f_X1_read_l14b v1 v2 k14 s = some (x, t)) : Ev DDX1_read miX1_read NF (some (.int x)) NF (hp t) 14 NF [(0, .ref 71), (1, .ref v1), (2, .int v2)] [] (hp s) := by
  refine e_iload_n dX1_read_14 2 rfl rfl (pc2 := 15) rfl ?_
  refine e_sipush (x := 1000) dX1_read_15 (by decide) (pc2 := 18) rfl ?_
  refine e_icmp_ge (tgt := 42) dX1_read_18 (by decide) (pc2 := 21) rfl (fun c4 => ?_) (fun c4 => ?_)
  · have hf := if_t c4 hf
    refine e_aload_n dX1_read_42 0 rfl rfl (pc2 := 43) rfl ?_
    refine e_getR (r := 36) fl_X1_15 dX1_read_43 so_71 (rs_71_0 s.2.2) (by decide) (pc2 := 46) rfl ?_
    obtain ⟨y5, s6, hy5, hf⟩ := bnd2_s hf
    refine e_callVs (t_X8_finish  s hy5) dX1_read_46 cv_X1_36 rfl so_36 rc_8 (by decide) (by first | exact Nat.le_of_ble_eq_true rfl | simp [rva_cat, vc_i, vc_r, vc_l, vc_n]) nn0 rfl (pc2 := 49) rfl ?_
    cases hf
    exact e_iret rfl dX1_read_49
  · have hf := if_f c4 hf
    refine e_aload_n dX1_read_21 0 rfl rfl (pc2 := 22) rfl ?_
    refine e_getR (r := 36) fl_X1_15 dX1_read_22 so_71 (rs_71_0 s.2.2) (by decide) (pc2 := 25) rfl ?_
    refine e_callVs (t_X8_goesOn  s rfl) dX1_read_25 cv_X1_28 rfl so_36 rc_8 (by decide) (by first | exact Nat.le_of_ble_eq_true rfl | simp [rva_cat, vc_i, vc_r, vc_l, vc_n]) nn0 rfl (pc2 := 28) rfl ?_
    refine e_if_eq (tgt := 42) dX1_read_28 (by decide) (pc2 := 31) rfl (fun c7 => ?_) (fun c7 => ?_)
    · have hf := if_t c7 hf
      refine e_aload_n dX1_read_42 0 rfl rfl (pc2 := 43) rfl ?_
      refine e_getR (r := 36) fl_X1_15 dX1_read_43 so_71 (rs_71_0 s.2.2) (by decide) (pc2 := 46) rfl ?_
      obtain ⟨y8, s9, hy8, hf⟩ := bnd2_s hf
      refine e_callVs (t_X8_finish  s hy8) dX1_read_46 cv_X1_36 rfl so_36 rc_8 (by decide) (by first | exact Nat.le_of_ble_eq_true rfl | simp [rva_cat, vc_i, vc_r, vc_l, vc_n]) nn0 rfl (pc2 := 49) rfl ?_
      cases hf
      exact e_iret rfl dX1_read_49
    · have hf := if_f c7 hf
      refine e_aload_n dX1_read_31 0 rfl rfl (pc2 := 32) rfl ?_
      refine e_aload_n dX1_read_32 1 rfl rfl (pc2 := 33) rfl ?_
      obtain ⟨s11, hy10, hf⟩ := bnd_s hf
      refine e_callVn (t_X1_readLine v1 hv1 s hy10) dX1_read_33 cv_X1_32 rfl so_71 rc_1 (by decide) (by first | exact Nat.le_of_ble_eq_true rfl | simp [rva_cat, vc_i, vc_r, vc_l, vc_n]) nn0 rfl (pc2 := 36) rfl ?_
      obtain ⟨x12, ex12, hf⟩ := ltb_s hf
      refine e_iinc dX1_read_36 2 rfl (c9 := 1) (by decide) ex12.symm (by decide) (ls' := [(0, .ref 71), (1, .ref v1), (2, .int x12)]) [1, 2, 0] rfl (pc2 := 39) rfl ?_
      refine e_goto (tgt := 14) dX1_read_39 (by decide) ?_
      exact hk14 x12 s11 hf
def f_X1_read_l14 (v1 : Nat) : Nat → Int32 → HS → Option (Int32 × HS)
  | 0, _, _ => none
  | n + 1, v2, s => f_X1_read_l14b v1 v2 (f_X1_read_l14 v1 n)  s
set_option maxRecDepth 20000 in
set_option maxHeartbeats 2000000 in
theorem t_X1_read_l14 (v1 : Nat) (hv1 : okX4 v1 = true) {x : Int32} {t : HS}  : ∀ (n : Nat) (v2 : Int32) (s : HS), f_X1_read_l14 v1 n v2 s = some (x, t) → Ev DDX1_read miX1_read NF (some (.int x)) NF (hp t) 14 NF [(0, .ref 71), (1, .ref v1), (2, .int v2)] [] (hp s) := by
  intro n
  induction n with
  | zero =>
    intro v2 s hf
    have hf : none = some (x, t) := hf
    cases hf
  | succ n ih =>
    intro v2 s hf
    exact t_X1_read_l14b v1 v2 hv1 s _ ih  hf
def f_X1_read (v1 : Nat) (s : HS) : Option (Int32 × HS) :=
  ltb (sI s 71 2 0) fun s1 => bnd (f_X8_rewind s1) fun s3 => f_X1_read_l14 v1 FU 0 s3
set_option maxRecDepth 20000 in
set_option maxHeartbeats 2000000 in
theorem t_X1_read (v1 : Nat) (hv1 : okX4 v1 = true) (s : HS) {x : Int32} {t : HS} (hf : f_X1_read  v1 s = some (x, t)) : Mt DDX1_read miX1_read [.ref 71, .ref v1] NF (hp s) (some (.int x)) NF (hp t) := by
  refine Mt.of (by decide +kernel) (Nat.le_refl _) (Nat.le_of_ble_eq_true rfl) ?_
  show Ev DDX1_read miX1_read NF (some (.int x)) NF (hp t) 0 NF [(0, .ref 71), (1, .ref v1)] [] (hp s)
  unfold f_X1_read at hf
  refine e_aload_n dX1_read_0 0 rfl rfl (pc2 := 1) rfl ?_
  refine e_iconst (x := 0) dX1_read_1 (by decide) (pc2 := 2) rfl ?_
  obtain ⟨s1, es1, hf⟩ := ltb_s hf
  refine e_putI fl_X1_19 dX1_read_2 so_71 fn_1_2 (h2 := hp s1) (by rw [es1]; rfl) (pc2 := 5) rfl ?_
  refine e_aload_n dX1_read_5 0 rfl rfl (pc2 := 6) rfl ?_
  refine e_getR (r := 36) fl_X1_15 dX1_read_6 so_71 (rs_71_0 s1.2.2) (by decide) (pc2 := 9) rfl ?_
  obtain ⟨s3, hy2, hf⟩ := bnd_s hf
  refine e_callVn (t_X8_rewind  s1 hy2) dX1_read_9 cv_X1_23 rfl so_36 rc_8 (by decide) (by first | exact Nat.le_of_ble_eq_true rfl | simp [rva_cat, vc_i, vc_r, vc_l, vc_n]) nn0 rfl (pc2 := 12) rfl ?_
  refine e_iconst (x := 0) dX1_read_12 (by decide) (pc2 := 13) rfl ?_
  refine e_istore_n dX1_read_13 rfl (by decide) rfl (ls' := [(0, .ref 71), (1, .ref v1), (2, .int 0)]) [1, 2, 0] rfl (pc2 := 14) rfl ?_
  refine t_X1_read_l14 v1 hv1 FU 0 s3 hf
abbrev DDX2_add : Nat := 1
def f_X2_add (p : Nat) (v1 : Int32) (s : HS) : Option HS :=
  (if 1000 ≤ (s.1 p 1) then some s else gd (inb (s.1 p 1) 1000) (ltb (sI s (Rf p 0) ((s.1 p 1).toNatClampNeg) v1) fun s2 => ltb (sI s2 p 1 ((s2.1 p 1) + 1)) fun s4 => some s4))
set_option maxRecDepth 20000 in
set_option maxHeartbeats 2000000 in
theorem t_X2_add (p : Nat) (hp_ : okX2 p = true) (v1 : Int32) (s : HS) {t : HS} (hf : f_X2_add  p v1 s = some t) : Mt DDX2_add miX2_add [.ref p, .int v1] NF (hp s) none NF (hp t) := by
  refine Mt.of (by decide +kernel) (Nat.le_refl _) (Nat.le_of_ble_eq_true rfl) ?_
  show Ev DDX2_add miX2_add NF none NF (hp t) 0 NF [(0, .ref p), (1, .int v1)] [] (hp s)
  unfold f_X2_add at hf
  refine e_aload_n dX2_add_0 0 rfl rfl (pc2 := 1) rfl ?_
  refine e_getI fl_X2_18 dX2_add_1 (okX2_o hp_) (by decide) (pc2 := 4) rfl ?_
  refine e_aload_n dX2_add_4 0 rfl rfl (pc2 := 5) rfl ?_
  refine e_getR (r := Rf p 0) fl_X2_9 dX2_add_5 (okX2_o hp_) (okX2_R hp_) (isA_ne (okX2_code hp_)) (pc2 := 8) rfl ?_
  refine e_alen (x := 1000) dX2_add_8 (okX2_code hp_) (by decide) (by decide) (pc2 := 9) rfl ?_
  refine e_icmp_ge (tgt := 32) dX2_add_9 (by decide) (pc2 := 12) rfl (fun c1 => ?_) (fun c1 => ?_)
  · have hf := if_t c1 hf
    cases hf
    exact e_vret rfl dX2_add_32
  · have hf := if_f c1 hf
    refine e_aload_n dX2_add_12 0 rfl rfl (pc2 := 13) rfl ?_
    refine e_getR (r := Rf p 0) fl_X2_9 dX2_add_13 (okX2_o hp_) (okX2_R hp_) (isA_ne (okX2_code hp_)) (pc2 := 16) rfl ?_
    refine e_aload_n dX2_add_16 0 rfl rfl (pc2 := 17) rfl ?_
    refine e_getI fl_X2_18 dX2_add_17 (okX2_o hp_) (by decide) (pc2 := 20) rfl ?_
    refine e_iload_n dX2_add_20 1 rfl rfl (pc2 := 21) rfl ?_
    obtain ⟨g3, hf⟩ := gd_some hf
    obtain ⟨s2, es2, hf⟩ := ltb_s hf
    refine e_iast dX2_add_21 (okX2_code hp_) (inb_v g3) (h2 := hp s2) (by rw [es2]; rfl) (pc2 := 22) rfl ?_
    refine e_aload_n dX2_add_22 0 rfl rfl (pc2 := 23) rfl ?_
    refine e_dup dX2_add_23 rfl (pc2 := 24) rfl ?_
    refine e_getI fl_X2_18 dX2_add_24 (okX2_o hp_) (by decide) (pc2 := 27) rfl ?_
    refine e_iconst (x := 1) dX2_add_27 (by decide) (pc2 := 28) rfl ?_
    refine e_iadd dX2_add_28 (pc2 := 29) rfl ?_
    obtain ⟨s4, es4, hf⟩ := ltb_s hf
    refine e_putI fl_X2_18 dX2_add_29 (okX2_o hp_) fn_2_1 (h2 := hp s4) (by rw [es4]; rfl) (pc2 := 32) rfl ?_
    cases hf
    exact e_vret rfl dX2_add_32
