/-! late, of both -/
section LLATE0
variable {p L c h n r : Nat} {s t s' t' : HS}
theorem PLx.cg3 (hp : okX4 p = true) (hn : c ≤ 6 ∧ h ≤ 5 ∧ n ≤ 6) (X : PLx p r c h n s t) (e0 : ∀ k, k ≤ 6 → s'.1 p k = s.1 p k) (hl : ∀ m, m < 4 → EqB (s'.1 (Rf p 7) m) (t'.1 119 (4 * r + m)) 0 10) (e6 : ∀ i, i < c → s'.1 (p + 6) i = s.1 (p + 6) i) (e9 : ∀ i, i < h → ∀ k, s'.1 (p + (9 + i)) k = s.1 (p + (9 + i)) k) (e14 : ∀ i, i < n → ∀ k, s'.1 (p + (14 + 2 * i)) k = s.1 (p + (14 + 2 * i)) k ∧ s'.1 (p + (15 + 2 * i)) k = s.1 (p + (15 + 2 * i)) k)
    (m0 : ∀ k, 3 ≤ k → k < 10 → t'.1 103 (10 * r + k) = t.1 103 (10 * r + k)) (m4 : ∀ i, i < c → t'.1 107 (6 * r + i) = t.1 107 (6 * r + i)) (m5 : ∀ i, i < h → ∀ o, 108 ≤ o → o ≤ 112 → t'.1 o (5 * r + i) = t.1 o (5 * r + i)) (m10 : ∀ i, i < n → ∀ o, (113 ≤ o ∧ o ≤ 116) ∨ o = 118 → t'.1 o (6 * r + i) = t.1 o (6 * r + i)) (m14 : ∀ i, i < n → ∀ k, k < 3 → t'.1 117 (3 * (6 * r + i) + k) = t.1 117 (3 * (6 * r + i) + k)) : PLx p r c h n s' t' := by
  obtain ⟨a6, a7, a8, a9, a10⟩ := X
  refine ⟨?_, ?_, ?_, ?_, hl⟩
  · unfold PLsc
    rw [e0 0 (by omega), e0 1 (by omega), e0 2 (by omega), e0 3 (by omega), e0 4 (by omega), e0 5 (by omega), e0 6 (by omega), m0 3 (by omega) (by omega), m0 4 (by omega) (by omega), m0 5 (by omega) (by omega), m0 6 (by omega) (by omega), m0 7 (by omega) (by omega), m0 8 (by omega) (by omega), m0 9 (by omega) (by omega)]
    exact a6
  · intro i hi
    have := a7 i hi
    rw [yS_e hp] at this ⊢
    rw [e6 i hi, m4 i hi]; exact this
  · intro i hi
    have := a8 i hi
    unfold PLt at this ⊢
    rw [tS_e hp (by omega)] at this ⊢
    rw [e9 i hi, e9 i hi, e9 i hi, e9 i hi, e9 i hi, m5 i hi 108 (by omega) (by omega), m5 i hi 109 (by omega) (by omega), m5 i hi 110 (by omega) (by omega), m5 i hi 111 (by omega) (by omega), m5 i hi 112 (by omega) (by omega)]; exact this
  · intro i hi
    have := a9 i hi
    unfold PLb at this ⊢
    rw [wS_e hp (by omega), bS_e hp (by omega)] at this ⊢
    obtain ⟨b1, b2, b3, b4, m, g1, g2, g3, g4, g5, g6, g7⟩ := this
    have w : ∀ k, k < m → t'.1 117 (3 * (6 * r + i) + k) = t.1 117 (3 * (6 * r + i) + k) := fun k hk => m14 i hi k (by omega)
    refine ⟨by rw [(e14 i hi 1).1, m10 i hi 113 (by omega)]; exact b1, by rw [(e14 i hi 2).1, m10 i hi 114 (by omega)]; exact b2, by rw [(e14 i hi 3).1, m10 i hi 115 (by omega)]; exact b3, by rw [(e14 i hi 4).1, m10 i hi 116 (by omega)]; exact b4, m, g1, g2, by rw [(e14 i hi 6).1]; exact g3, by rw [m10 i hi 118 (by omega)]; exact g4, fun k hk => by rw [(e14 i hi k).2, w k hk]; exact g5 k hk, fun k hk k' hk' q => ?_, ?_⟩
    · rw [w k hk, w k' hk'] at q; exact g6 k hk k' hk' q
    · rw [(e14 i hi 7).1, g7]; exact (wbits_cg w).symm
end LLATE0
section LLATE
variable {p L c h n : Nat} {s t : HS}
def lateK (p : Nat) : Int32 → HS → Option HS := fun v9 s10 => bnd2 (f_X8_takeNumber v9 v9 s10) fun y11 s12 => ltb (sI s12 (Rf p 7) (3) y11) fun s13 => some s13
theorem late_c (hp : okX4 p = true) {k : Nat} (hk : k < 3) (f : Nat) (v2 : Int32) (s : HS) : f_X5_readLate_l5 p (lateK p) (f + 1) v2 (I k) s = bnd2 (f_X8_takeNumber 0 10 s) fun y s3 => f_X5_readLate_l5 p (lateK p) f (v2 - y) (I (k + 1)) (sI s3 (p + 1) k y) := by
  have n3 : ¬ (3 : Int32) ≤ I k := by rw [show (3 : Int32) = I 3 from litI 3, I_le (by omega) (by omega)]; omega
  have k4 : inb (I k) 4 = true := inb_t (by omega) (by omega)
  have kk : (I k).toNatClampNeg = k := I_nat (by omega)
  show f_X5_readLate_l5b p v2 (I k) _ (lateK p) s = _
  unfold f_X5_readLate_l5b
  rw [if_neg n3]
  simp only [k4, gd_t, ltb_t, kk, lS_e hp, sI_k, I_p1]
theorem late_3 (f : Nat) (v2 : Int32) (s : HS) : f_X5_readLate_l5 p (lateK p) (f + 1) v2 (I 3) s = lateK p v2 s := by
  show f_X5_readLate_l5b p v2 (I 3) _ (lateK p) s = _
  unfold f_X5_readLate_l5b
  rw [if_pos (by decide)]
theorem late_dead (hp : okX4 p = true) : ∀ e k, k + e = 3 → ∀ f, e < f → ∀ v2 s, Dd s → ∃ s', f_X5_readLate_l5 p (lateK p) f v2 (I k) s = some s' ∧ Dd s' ∧ s'.1 36 9 = s.1 36 9 := by
  have h1 : p + 1 ≠ 36 := (p36 hp 1 (by omega)).1
  intro e
  induction e with
  | zero =>
    intro k hk f hf v2 s D
    obtain ⟨f', rfl⟩ : ∃ f', f = f' + 1 := ⟨f - 1, by omega⟩
    obtain rfl : k = 3 := by omega
    rw [late_3]
    unfold lateK
    rw [D.num, bnd2_t, ltb_t, lS_e hp]
    exact ⟨_, rfl, D.sI h1, sI_36 _ _ h1⟩
  | succ e ih =>
    intro k hk f hf v2 s D
    obtain ⟨f', rfl⟩ : ∃ f', f = f' + 1 := ⟨f - 1, by omega⟩
    rw [late_c hp (by omega), D.num, bnd2_t]
    obtain ⟨s', a, b, d⟩ := ih (k + 1) (by omega) f' (by omega) (v2 - 0) _ (D.sI h1 (k := k) (x := 0))
    exact ⟨s', a, b, d.trans (sI_36 _ _ h1)⟩
theorem late_m {k : Nat} (hk : k < 3) (f : Nat) (v1 : Int32) (t : HS) : f_X12_readsLate_l22 (f + 1) v1 (I k) t = bnd2 (f_X12_needsNumber 0 10 t) fun y s13 => if y = 0 then some (0, s13) else f_X12_readsLate_l22 f (v1 + s13.1 101 44) (I (k + 1)) (sI s13 119 (4 + k) (s13.1 101 44)) := by
  have n4 : ¬ (4 : Int32) ≤ I k := by rw [show (4 : Int32) = I 4 from litI 4, I_le (by omega) (by omega)]; omega
  have n3 : ¬ I k = 3 := by rw [show (3 : Int32) = I 3 from litI 3, I_inj (by omega) (by omega)]; omega
  have e4 : (4 : Int32) + I k = I (4 + k) := by rw [show (4 : Int32) = I 4 from litI 4, I_add]
  have k8 : inb (I (4 + k)) 8 = true := inb_t (by omega) (by omega)
  have kk : (I (4 + k)).toNatClampNeg = 4 + k := I_nat (by omega)
  have e44 : ∀ (u : HS) (a : Nat) (x : Int32), (sI u 119 a x).1 101 44 = u.1 101 44 := fun u a x => by rw [sI_n _ _ _ (show 101 ≠ 119 from by decide)]
  show f_X12_readsLate_l22b v1 (I k) _ t = _
  unfold f_X12_readsLate_l22b f_X12_readsLate_j41 f_X12_readsLate_j55
  rw [if_neg n4, if_neg n3, if_neg n3]
  simp only [e4, k8, gd_t, ltb_t, kk, e44, I_p1]
theorem late_m3 (f : Nat) (v1 : Int32) (t : HS) : f_X12_readsLate_l22 (f + 2) v1 (I 3) t = bnd2 (f_X12_needsNumber (10 - v1) (10 - v1) t) fun y s13 => if y = 0 then some (0, s13) else bnd2 (f_X12_closes (sI s13 119 7 (s13.1 101 44))) fun y7 s8 => gd (isb y7) (some (y7, s8)) := by
  show f_X12_readsLate_l22b v1 (I 3) (f_X12_readsLate_l22 (f + 1)) t = _
  have l4 : ∀ a s, f_X12_readsLate_l22 (f + 1) a (I 4) s = bnd2 (f_X12_closes s) fun y7 s8 => gd (isb y7) (some (y7, s8)) := fun a s => by
    show f_X12_readsLate_l22b a (I 4) (f_X12_readsLate_l22 f) s = _
    unfold f_X12_readsLate_l22b
    rw [if_pos (by decide)]
  have e4 : (4 : Int32) + I 3 = I 7 := by decide
  have k8 : inb (I 7) 8 = true := by decide
  have kk : (I 7).toNatClampNeg = 7 := by decide
  unfold f_X12_readsLate_l22b f_X12_readsLate_j41 f_X12_readsLate_j55
  rw [if_neg (by decide), if_pos (by decide), if_pos (by decide)]
  simp only [e4, k8, gd_t, ltb_t, kk, I_p1, l4]
theorem sub3 (y : Int32) (v : Int32) : (10 - v) - y = 10 - (v + y) := by
  rw [Int32.sub_eq_add_neg (10 - v) y, Int32.sub_eq_add_neg 10 v, Int32.sub_eq_add_neg 10 (v + y), Int32.neg_add, Int32.sub_eq_add_neg (-v) y, Int32.add_assoc]
theorem l_late (hp : okX4 p = true) {B P m : Nat} (T : TK L B P s t) (hB : B < P) (D : DR p c h n s t) (hm : m < 256) (e1 : s.1 69 2 = I m) (e2 : t.1 101 31 = tbq m) (O : ORDq p m s t) :
    Res L B t (fun s' t' => DR p c h n s' t' ∧ ONCE p s' t' ∧ FR0 t t') (if s.1 69 2 &&& I (2 ^ 6) = 0 then bnd (f_X8_step (sI s 69 2 (s.1 69 2 ||| I (2 ^ 6)))) fun s17 => bnd (f_X5_readLate p s17) fun s25 => f_X5_readLine_j161 s25 else bnd (f_X8_fail 3 s) fun s27 => f_X5_readLine_j161 s27) (f_X12_readsLate t) := by
  obtain ⟨d1, d2, d3⟩ := id D
  obtain ⟨⟨hc, hh, hn⟩, -⟩ := id d1
  have q := p36 hp
  have hp0 : p ≠ 0 := (q 0 (by omega)).2.2.1
  have hp36 : p ≠ 36 := (q 0 (by omega)).1
  have hp69 : p ≠ 69 := (q 0 (by omega)).2.2.2
  obtain ⟨h36, h37, h10, h169⟩ := q 1 (by omega)
  unfold f_X12_readsLate
  refine f_twice (b := 6) T hm (by omega) e2 (by decide) (K := fun s => bnd (f_X8_step s) fun s17 => bnd (f_X5_readLate p s17) fun s25 => f_X5_readLine_j161 s25) (fun z T0 => ?_) e1
  have o2 := once_2 m hm 6 (by omega)
  have o4 := once_4 m hm 6 (by omega)
  have dk : ∀ k, k ≤ 3 → 1 ≤ k → ∀ v2 f, 3 < f → DK (fun _ => True) (fun s => bnd (f_X5_readLate_l5 p (lateK p) f v2 (I k) (sI s (p + 1) (k - 1) 0)) fun s25 => bnd (f_X8_takeSign 59 s25) fun s9 => some s9) := fun k hk hk1 v2 f hf => DK.go fun s D _ => by
    obtain ⟨s', a, b, d⟩ := late_dead hp (3 - k) k (by omega) f (by omega) v2 _ (D.sI h36 (k := k - 1) (x := 0))
    exact ⟨s', by rw [a, bnd_t, b.takeSign, bnd_t], b, d.trans (sI_36 _ _ h36)⟩
  have rl : ∀ s, f_X5_readLate p s = f_X5_readLate_l5 p (lateK p) 5000 10 (I 0) s := fun s => by
    unfold f_X5_readLate
    rw [I_e0]
    exact Eq.refl _
  unfold f_X5_readLine_j161
  simp only [rl]
  have hf : free [(101, 31, tbq (m + 2 ^ 6))] [] := free_I free_nil (by unfold R0; omega)
  refine f_step T0 (Wr.wI Wr.nil) (Wr.wI Wr.nil) (fun B1 P1 s1 t1 T1 hb1 w1 m1 _ _ => ?_)
  rw [show f_X12_readsLate_l22 FU 0 0 t1 = f_X12_readsLate_l22 5000 0 (I 0) t1 from by rw [I_e0]; exact Eq.refl _, late_c hp (by omega), late_m (by omega), bnd_as2]
  refine f_num T1 w1 m1 hf (K := fun y s' => bnd (f_X5_readLate_l5 p (lateK p) 4999 (10 - y) (I 1) (sI s' (p + 1) 0 y)) fun s25 => bnd (f_X8_takeSign 59 s25) fun s9 => some s9) (Q := fun _ => True) (dk 1 (by omega) (by omega) _ _ (by omega)) (fun _ _ => trivial) (fun B2 P2 s2 t2 v2 T2 hb2 hv2 w2 m2 _ => ?_)
  rw [hv2.1, late_c hp (by omega), late_m (by omega), bnd_as2]
  have f2 := free_I hf (o := 119) (k := 4 + 0) (x := v2) (by unfold R0; omega)
  refine f_num ((T2.cI ⟨h36, h37⟩).mI (o := 119) ⟨Or.inl (by decide), by decide⟩) w2.wI (Wr.wI m2) f2 (K := fun y s' => bnd (f_X5_readLate_l5 p (lateK p) 4998 (10 - v2 - y) (I 2) (sI s' (p + 1) 1 y)) fun s25 => bnd (f_X8_takeSign 59 s25) fun s9 => some s9) (Q := fun _ => True) (dk 2 (by omega) (by omega) _ _ (by omega)) (fun _ _ => trivial) (fun B3 P3 s3 t3 v3 T3 hb3 hv3 w3 m3 _ => ?_)
  rw [hv3.1, late_c hp (by omega), late_m (by omega), bnd_as2]
  have f3 := free_I f2 (o := 119) (k := 4 + 1) (x := v3) (by unfold R0; omega)
  refine f_num ((T3.cI ⟨h36, h37⟩).mI (o := 119) ⟨Or.inl (by decide), by decide⟩) w3.wI (Wr.wI m3) f3 (K := fun y s' => bnd (f_X5_readLate_l5 p (lateK p) 4997 (10 - v2 - v3 - y) (I 3) (sI s' (p + 1) 2 y)) fun s25 => bnd (f_X8_takeSign 59 s25) fun s9 => some s9) (Q := fun _ => True) (dk 3 (by omega) (by omega) _ _ (by omega)) (fun _ _ => trivial) (fun B4 P4 s4 t4 v4 T4 hb4 hv4 w4 m4 _ => ?_)
  have f4 := free_I f3 (o := 119) (k := 4 + 2) (x := v4) (by unfold R0; omega)
  have eq3 : 10 - v2 - v3 - v4 = 10 - (0 + v2 + v3 + v4) := by rw [Int32.zero_add, sub3, sub3]
  rw [hv4.1, late_3, late_m3, eq3]
  unfold lateK
  rw [bnd_as2]
  simp only [ltb_t, bnd_t, lS_e hp]
  refine f_num ((T4.cI ⟨h36, h37⟩).mI (o := 119) ⟨Or.inl (by decide), by decide⟩) w4.wI (Wr.wI m4) f4 (Q := fun _ => True) (DK.go fun s D _ => ?_) (fun _ _ => trivial) (fun B5 P5 s5 t5 v5 T5 hb5 hv5 w5 m5 _ => ?_)
  · simp (maxDischargeDepth := 20) only [Dd.takeSign, Dd.sI, D, h36, bnd_t, ne_eq, not_false_eq_true]
    exact ⟨_, rfl, D.sI h36, sI_36 _ _ h36⟩
  rw [hv5.1]
  have l1 := T1.le
  have l2 := T2.le
  have l3 := T3.le
  have l4 := T4.le
  have fin := free_I f4 (o := 119) (k := 7) (x := v5) (by unfold R0; omega)
  refine f_close ((T5.cI ⟨h36, h37⟩).mI (o := 119) ⟨Or.inl (by decide), by decide⟩) w5.wI (Wr.wI m5) fin (by omega) (fun B' P' s' t' T' w' m' => ?_)
  have ns : ∀ o j, o ≠ 36 → o ≠ 0 → (o ≠ 69 ∨ j ≠ 2) → (o ≠ p + 1 ∨ 4 ≤ j) → s'.1 o j = s.1 o j := fun o j z1 z2 z3 z4 => by
    rw [w'.1 o j (by omega)]
    simp only [lk]
    rw [if_neg (by omega), if_neg (by omega), if_neg (by omega), if_neg (by omega), if_neg (by omega)]
  have nsL : ∀ o j, o ≠ 36 → o ≠ 0 → s'.2.1 o j = s.2.1 o j := fun o j z1 z2 => by
    rw [w'.2 o j (by omega)]
    rfl
  have nt : ∀ o j, ¬ Zm o j → (o ≠ 101 ∨ j ≠ 31) → o ≠ 119 → t'.1 o j = t.1 o j := fun o j z1 z2 z3 => by
    rw [m'.1 o j z1]
    simp only [lk]
    rw [if_neg (by omega), if_neg (by omega), if_neg (by omega), if_neg (by omega), if_neg (by omega)]
  have ntL : ∀ o j, ¬ Zm o j → t'.2.1 o j = t.2.1 o j := fun o j z1 => by
    rw [m'.2 o j z1]
    rfl
  have zm : ∀ o j, o ≠ 101 → ¬ Zm o j := fun o j z1 z2 => z1 z2.1
  have q14 : ∀ j, j < 26 → p + j ≠ 36 ∧ p + j ≠ 0 ∧ p + j ≠ 69 := fun j hj => ⟨(q j hj).1, (q j hj).2.2.1, (q j hj).2.2.2⟩
  have vs : ∀ j v, lk ((p + 1, 3, v5) :: (p + 1, 2, v4) :: (p + 1, 1, v3) :: (p + 1, 0, v2) :: [(69, 2, I (m + 2 ^ 6))]) (p + 1) j (s.1 (p + 1) j) = v → s'.1 (p + 1) j = v := fun j v e => by
    rw [w'.1 (p + 1) j (by omega)]; exact e
  have vt : ∀ j v, lk ((119, 7, v5) :: (119, 4 + 2, v4) :: (119, 4 + 1, v3) :: (119, 4 + 0, v2) :: [(101, 31, tbq (m + 2 ^ 6))]) 119 j (t.1 119 j) = v → t'.1 119 j = v := fun j v e => by
    rw [m'.1 119 j (zm _ _ (by decide))]; exact e
  have i0 : (0 : Int32).toInt = 0 := by decide
  have i10 : (10 : Int32).toInt = 10 := by decide
  have bd2 := hv2.2
  have bd3 := hv3.2
  have bd4 := hv4.2
  have bd5 := hv5.2
  have s5 : v5.toInt ≤ 10 := by
    have a1 : (v2 + v3).toInt = v2.toInt + v3.toInt := ti_add (by omega) (by omega)
    have a2 : (v2 + v3 + v4).toInt = v2.toInt + v3.toInt + v4.toInt := by rw [ti_add (by omega) (by omega), a1]
    have a3 : (10 - (0 + v2 + v3 + v4)).toInt = 10 - (v2.toInt + v3.toInt + v4.toInt) := by rw [Int32.zero_add, ti_sub (by omega) (by omega), a2, i10]
    omega
  have a0 := vs 0 v2 (by simp only [lk]; rw [if_neg (by omega), if_neg (by omega), if_neg (by omega), if_pos (by first | omega | simp)])
  have a1 := vs 1 v3 (by simp only [lk]; rw [if_neg (by omega), if_neg (by omega), if_pos (by first | omega | simp)])
  have a2 := vs 2 v4 (by simp only [lk]; rw [if_neg (by omega), if_pos (by first | omega | simp)])
  have a3 := vs 3 v5 (by simp only [lk]; rw [if_pos (by first | omega | simp)])
  have b0 := vt 4 v2 (by simp only [lk]; rw [if_neg (by omega), if_neg (by omega), if_neg (by omega), if_pos (by first | omega | simp)])
  have b1 := vt 5 v3 (by simp only [lk]; rw [if_neg (by omega), if_neg (by omega), if_pos (by first | omega | simp)])
  have b2 := vt 6 v4 (by simp only [lk]; rw [if_neg (by omega), if_pos (by first | omega | simp)])
  have b3 := vt 7 v5 (by simp only [lk]; rw [if_pos (by first | omega | simp)])
  have X : PLx p 1 c h n s' t' := by
    refine d2.cg3 hp ⟨hc, hh, hn⟩ (fun k hk => ns p k hp36 hp0 (Or.inl hp69) (Or.inl (by omega))) (fun m hm => ?_) (fun i _ => ns (p + 6) i (q14 6 (by omega)).1 (q14 6 (by omega)).2.1 (Or.inl (q14 6 (by omega)).2.2) (Or.inl (by omega))) (fun i hi k => ns _ _ (q14 (9 + i) (by omega)).1 (q14 (9 + i) (by omega)).2.1 (Or.inl (q14 (9 + i) (by omega)).2.2) (Or.inl (by omega))) (fun i hi k => ⟨ns _ _ (q14 (14 + 2 * i) (by omega)).1 (q14 (14 + 2 * i) (by omega)).2.1 (Or.inl (q14 (14 + 2 * i) (by omega)).2.2) (Or.inl (by omega)), ns _ _ (q14 (15 + 2 * i) (by omega)).1 (q14 (15 + 2 * i) (by omega)).2.1 (Or.inl (q14 (15 + 2 * i) (by omega)).2.2) (Or.inl (by omega))⟩) (fun k _ _ => nt _ _ (zm _ _ (by decide)) (Or.inl (by decide)) (by decide)) (fun i _ => nt _ _ (zm _ _ (by decide)) (Or.inl (by decide)) (by decide)) (fun i hi o h1 h2 => nt _ _ (zm _ _ (by omega)) (Or.inl (by omega)) (by omega)) (fun i hi o ho => nt _ _ (zm _ _ (by omega)) (Or.inl (by omega)) (by omega)) (fun i hi k _ => nt _ _ (zm _ _ (by decide)) (Or.inl (by decide)) (by decide))
    rw [lS_e hp]
    rcases (show m = 0 ∨ m = 1 ∨ m = 2 ∨ m = 3 from by omega) with rfl | rfl | rfl | rfl
    · exact ⟨a0.trans b0.symm, by rw [show 4 * 1 + 0 = 4 from rfl, b0]; omega⟩
    · exact ⟨a1.trans b1.symm, by rw [show 4 * 1 + 1 = 5 from rfl, b1]; omega⟩
    · exact ⟨a2.trans b2.symm, by rw [show 4 * 1 + 2 = 6 from rfl, b2]; omega⟩
    · exact ⟨a3.trans b3.symm, by rw [show 4 * 1 + 3 = 7 from rfl, b3]; omega⟩
  have Y : NMS p 1 c h n s' t' := d3.cg hp ⟨hc, hh, hn⟩ (fun i hi => nsL _ _ (q14 5 (by omega)).1 (q14 5 (by omega)).2.1) (fun i hi => nsL _ _ (q14 (9 + i) (by omega)).1 (q14 (9 + i) (by omega)).2.1) (fun i hi => nsL _ _ (q14 (14 + 2 * i) (by omega)).1 (q14 (14 + 2 * i) (by omega)).2.1) (fun i _ => ntL _ _ (zm _ _ (by decide))) (fun i hi => ntL _ _ (zm _ _ (by decide))) (fun i _ => ntL _ _ (zm _ _ (by decide)))
  refine ⟨⟨?_, X, Y⟩, ⟨m + 2 ^ 6, (o2 z).2, ?_, ?_, O.cg (o4 z).2 (fun k => ⟨ns _ _ (q14 2 (by omega)).1 (q14 2 (by omega)).2.1 (Or.inl (q14 2 (by omega)).2.2) (Or.inl (by omega)), ns _ _ (q14 3 (by omega)).1 (q14 3 (by omega)).2.1 (Or.inl (q14 3 (by omega)).2.2) (Or.inl (by omega))⟩) (nt _ _ (by unfold Zm; omega) (Or.inr (by decide)) (by decide)) (fun k => ⟨nt _ _ (zm _ _ (by decide)) (Or.inl (by decide)) (by decide), nt _ _ (zm _ _ (by decide)) (Or.inl (by decide)) (by decide), nt _ _ (zm _ _ (by decide)) (Or.inl (by decide)) (by decide)⟩)⟩, Wm.r0 m' fin⟩
  · unfold CNT
    rw [ns _ _ hp36 hp0 (Or.inl hp69) (Or.inl (by omega)), ns _ _ hp36 hp0 (Or.inl hp69) (Or.inl (by omega)), ns _ _ hp36 hp0 (Or.inl hp69) (Or.inl (by omega)), nt 103 _ (zm _ _ (by decide)) (Or.inl (by decide)) (by decide), nt 103 _ (zm _ _ (by decide)) (Or.inl (by decide)) (by decide), nt 103 _ (zm _ _ (by decide)) (Or.inl (by decide)) (by decide)]
    exact d1
  · rw [w'.1 69 2 (by omega)]; simp only [lk]; rw [if_neg (by omega), if_neg (by omega), if_neg (by omega), if_neg (by omega), if_pos (by first | omega | simp)]
  · rw [m'.1 101 31 (by unfold Zm; omega)]; simp only [lk]; rw [if_neg (by omega), if_neg (by omega), if_neg (by omega), if_neg (by omega), if_pos (by first | omega | simp)]
end LLATE
