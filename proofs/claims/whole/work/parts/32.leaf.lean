/-! Leaves of the round, of both -/
theorem bS_f {p i : Nat} : Rf (Rf p 15) i = bS p i := by unfold bS; exact Eq.refl _
theorem tS_f {p i : Nat} : Rf (Rf p 13) i = tS p i := by unfold tS; exact Eq.refl _
section LEAF
variable {p c h n : Nat} {s t : HS}
theorem PL.bb (P : PL p 0 c h n s t) {i : Nat} (hi : i < n) : PLb p 0 c h i s t := P.2.2.2.2.2.2.2.2.1 i hi
theorem PL.tt (P : PL p 0 c h n s t) {i : Nat} (hi : i < h) : PLt p 0 i s t := P.2.2.2.2.2.2.2.1 i hi
theorem PL.yy (P : PL p 0 c h n s t) {i : Nat} (hi : i < c) : EqB (s.1 (Rf p 11) i) (t.1 107 i) 0 200 := by have := P.2.2.2.2.2.2.1 i hi; simpa using this
theorem PL.n6 (P : PL p 0 c h n s t) : c ≤ 6 ∧ h ≤ 5 ∧ n ≤ 6 := P.2.1
theorem PL.nc (P : PL p 0 c h n s t) : s.1 p 14 = I n := P.2.2.2.2.1.1
theorem PL.nm (P : PL p 0 c h n s t) : t.1 103 2 = I n := P.2.2.2.2.1.2
theorem PL.hc (P : PL p 0 c h n s t) : s.1 p 12 = I h := P.2.2.2.1.1
theorem PL.hm (P : PL p 0 c h n s t) : t.1 103 1 = I h := P.2.2.2.1.2
theorem PL.sc (P : PL p 0 c h n s t) : PLsc p 0 s t := P.2.2.2.2.2.1
theorem EqB.of {a b : Int32} {lo hi : Int} (e : EqB a b lo hi) (h0 : 0 ≤ lo) : ∃ k : Nat, a = I k ∧ b = I k ∧ lo ≤ k ∧ (k : Int) ≤ hi := by
  obtain ⟨e1, e2, e3⟩ := e
  refine ⟨b.toInt.toNat, ?_, ?_, by omega, by omega⟩
  · rw [e1]; exact I_of (by omega)
  · exact I_of (by omega)
theorem away_if {y u : Int32} (h1 : 0 ≤ y.toInt ∧ y.toInt ≤ 200) (h2 : 0 ≤ u.toInt ∧ u.toInt ≤ 200) : (if u ≤ y then some (y - u) else some (u - y)) = some (f_X12_away y u t) ∧ 0 ≤ (f_X12_away y u t).toInt ∧ (f_X12_away y u t).toInt ≤ 200 := by
  have e1 : (y - u).toInt = y.toInt - u.toInt := ti_sub (by omega) (by omega)
  have e2 : (u - y).toInt = u.toInt - y.toInt := ti_sub (by omega) (by omega)
  unfold f_X12_away
  simp only [Int32.le_iff_toInt_le]
  by_cases q : u.toInt ≤ y.toInt
  · rw [if_pos q, if_pos q, e1]; exact ⟨rfl, by omega, by omega⟩
  · rw [if_neg q, if_neg q, e2]; exact ⟨rfl, by omega, by omega⟩
/-- how far his coach is -/
theorem r_far (P : PL p 0 c h n s t) {u : Int32} (hu : EqB u (t.1 145 2) 0 200) {i : Nat} (hi : i < n) :
    ∃ x, f_X4_farOf p (I i) u s = some x ∧ inb (t.1 114 i) 12 = true ∧ f_X12_away (t.1 107 (t.1 114 i).toNatClampNeg) (t.1 145 2) t = x ∧ 0 ≤ x.toInt ∧ x.toInt ≤ 200 := by
  have hn := P.n6
  obtain ⟨-, b2, -⟩ := P.bb hi
  simp only [Nat.mul_zero, Nat.zero_add] at b2
  obtain ⟨k, e1, e2, k1, k2⟩ := b2.of (by omega)
  obtain ⟨y1, y2, y3⟩ := P.yy (i := k) (by omega)
  obtain ⟨u1, u2, u3⟩ := hu
  obtain ⟨a1, a2, a3⟩ := away_if (t := t) ⟨y2, y3⟩ ⟨u2, u3⟩
  refine ⟨_, ?_, ?_, rfl, ?_⟩
  · unfold f_X4_farOf
    rw [I_nat (by omega), bS_f, e1, inb_t (by omega) (by omega), inb_t (by omega) (by omega), I_nat (by omega), e2, I_nat (by omega), y1, u1, gd_t, gd_t, ltb_t, a1]
  · rw [e2, inb_t (by omega) (by omega)]
  · rw [e2, I_nat (by omega)]; exact ⟨a2, a3⟩
/-- his way -/
theorem r_way (P : PL p 0 c h n s t) {u : Int32} (hu : EqB u (t.1 145 2) 0 200) {i : Nat} (hi : i < n) :
    ∃ x, f_X4_wayOf p (I i) u s = some x ∧ f_X12_wayOf (I i) t = some x ∧ 0 ≤ x.toInt ∧ x.toInt ≤ 600 := by
  have hn := P.n6
  obtain ⟨x, e1, e2, e3, x1, x2⟩ := r_far P hu hi
  obtain ⟨-, -, -, -, -, -, ⟨q1, q2, q3⟩, -⟩ := P.sc
  simp only [Nat.mul_zero, Nat.zero_add] at q1 q2 q3
  have hm : (x * t.1 103 9).toInt = x.toInt * (t.1 103 9).toInt := by
    have := Int.mul_le_mul x2 q3 (by omega) (by omega)
    have := Int.mul_nonneg x1 (show 0 ≤ (t.1 103 9).toInt by omega)
    exact ti_mul (by omega) (by omega)
  refine ⟨x * t.1 103 9 / 10, ?_, ?_, ?_⟩
  · unfold f_X4_wayOf
    rw [e1, bnd_t, q1]
  · unfold f_X12_wayOf
    rw [inb_t (by omega) (by omega), I_nat (by omega), gd_t, e2, gd_t, e3]
  · have := Int.mul_le_mul x2 q3 (by omega) (by omega)
    have := Int.mul_nonneg x1 (show 0 ≤ (t.1 103 9).toInt by omega)
    rw [Int32.toInt_div_of_ne_right _ _ (by decide), hm]
    have : (10 : Int32).toInt = 10 := by decide
    rw [this, Int.tdiv_eq_ediv_of_nonneg (by omega)]
    omega
theorem imaxmin {b w x : Int32} : imax 0 (imin b (x - w)) = imax 0 (imin b (x - w)) := rfl
theorem imax0_b {y : Int32} {hi : Int} (h : 0 ≤ hi) (hy : y.toInt ≤ hi) : 0 ≤ (imax 0 y).toInt ∧ (imax 0 y).toInt ≤ hi := by
  unfold imax
  split
  · rename_i q
    rw [Int32.lt_iff_toInt_lt, Int32.toInt_zero] at q
    omega
  · rw [Int32.toInt_zero]; omega
theorem imin_le {x y : Int32} : (imin x y).toInt ≤ y.toInt ∧ (imin x y).toInt ≤ x.toInt := by
  unfold imin
  split <;> rename_i q <;> rw [Int32.lt_iff_toInt_lt] at q <;> omega
/-- when he goes, when he comes -/
theorem r_goes (P : PL p 0 c h n s t) {u b : Int32} (hu : EqB u (t.1 145 2) 0 200) (hb : b = t.1 145 1) {i : Nat} (hi : i < n) :
    ∃ x w, f_X4_wayOf p (I i) u s = some w ∧ f_X12_wayOf (I i) t = some w ∧ f_X4_goesAt p w b s = x ∧ f_X12_goesAt (I i) t = some x ∧ 0 ≤ x.toInt ∧ x.toInt ≤ (t.1 103 3).toInt ∧ 0 ≤ w.toInt ∧ w.toInt ≤ 600 := by
  obtain ⟨w, e1, e2, w1, w2⟩ := r_way P hu hi
  obtain ⟨⟨q1, q2, q3⟩, -⟩ := P.sc
  simp only [Nat.mul_zero, Nat.zero_add] at q1 q2 q3
  have h1 : (t.1 103 3 - w).toInt = (t.1 103 3).toInt - w.toInt := ti_sub (by omega) (by omega)
  have h2 := (imin_le (x := t.1 145 1) (y := t.1 103 3 - w)).1
  have h3 := imax0_b (y := imin (t.1 145 1) (t.1 103 3 - w)) (hi := (t.1 103 3).toInt) (by omega) (by omega)
  refine ⟨_, w, e1, e2, rfl, ?_, ?_⟩
  · unfold f_X12_goesAt f_X4_goesAt
    rw [e2, bnd_t, hb, q1]
  · unfold f_X4_goesAt
    rw [hb, q1]
    exact ⟨h3.1, h3.2, w1, w2⟩
end LEAF
