/-! out, set, heats, undo -/
theorem isb01 : isb 0 = true ∧ isb 1 = true := by decide
section SETS
variable {p d c h n a : Nat} {s t : HS}
theorem cl_o {h : Nat} {stop : Int} {w x : Int32} {o k q : Nat} {lo hi : Int} (C : CL 64 h stop w x o k q lo hi) (hh : h ≤ 5) : ((o = 64 ∧ k < 4) ∨ o = 65) ∧ q < 9 := by
  rcases C with ⟨rfl, rfl, rfl, rfl, rfl, rfl⟩ | ⟨rfl, rfl, rfl, rfl, rfl, rfl⟩ | ⟨rfl, rfl, rfl, rfl, rfl, rfl⟩ | ⟨rfl, j, j1, rfl, rfl, rfl, rfl, rfl, rfl⟩
  · exact ⟨Or.inl ⟨rfl, by omega⟩, by omega⟩
  · exact ⟨Or.inl ⟨rfl, by omega⟩, by omega⟩
  · exact ⟨Or.inl ⟨rfl, by omega⟩, by omega⟩
  · exact ⟨Or.inr rfl, by omega⟩
/-- a value by hand: w 0 1 2 4 -/
theorem r_val (R : Rel p d c h n s t) {w x : Int32} {o k q : Nat} {lo hi : Int} (C : CL 64 h (t.1 103 3).toInt w x o k q lo hi) (y : Int32) :
    (y.toInt < lo ∨ hi < y.toInt → f_X11_changeByHand w x y s = some (0, s)) ∧ (lo ≤ y.toInt → y.toInt ≤ hi → ∃ r s' t', (r = 0 ∨ r = 1) ∧ f_X11_changeByHand w x y s = some (r, s') ∧ f_X12_changes (I q) y 1 t = some (r, t') ∧ Rel p d c h n s' t') := by
  have hh := R.2.1.n6
  obtain ⟨e1, e2, e3, e4, e5, e6⟩ := r_chgv R.2.1 R.2.2.1 C y
  obtain ⟨ho, q9⟩ := cl_o C hh.2.1
  have i9 : inb (I q) 9 = true := inb_t (by omega) (by omega)
  have qq : (I q).toNatClampNeg = q := I_nat (by omega)
  have same : f_X7_change 64 p w x y s = some (0, s) → f_X11_changeByHand w x y s = some (0, s) := fun e => by
    unfold f_X11_changeByHand
    rw [R.1.1, R.2.1.1, gd_t, e4, bnd_t, gd_t, e, bnd2_t, if_pos (Eq.refl _)]
  refine ⟨fun z => same ?_, fun z1 z2 => ?_⟩
  · rw [e5, if_pos z, ite_self]
  · by_cases z : t.1 145 q = y
    · refine ⟨0, s, t, Or.inl rfl, same (by rw [e5, if_pos z]), ?_, R⟩
      unfold f_X12_changes
      rw [i9, gd_t, qq, if_pos z]
    · have nz : ¬ (y.toInt < lo ∨ hi < y.toInt) := by omega
      have ch : f_X7_change 64 p w x y s = some (1, sI s o k y) := by rw [e5, if_neg z, if_neg nz]
      have N : UNi h n (t.1 103 3).toInt w x (t.1 145 q) (fun j => t.1 145 j) (fun j => if j = q then y else t.1 145 j) := by
        have df : ∀ k, q = k → ∀ q', q' < 9 → q' ≠ k → t.1 145 q' = (if q' = q then y else t.1 145 q') := fun k e q' _ h2 => by rw [if_neg (by omega)]
        rcases C with ⟨rfl, rfl, rfl, rfl, rfl, rfl⟩ | ⟨rfl, rfl, rfl, rfl, rfl, rfl⟩ | ⟨rfl, rfl, rfl, rfl, rfl, rfl⟩ | ⟨rfl, j, j1, rfl, rfl, rfl, rfl, rfl, rfl⟩
        · exact Or.inl ⟨rfl, ⟨rfl, e2, e3⟩, df 1 rfl⟩
        · exact Or.inr (Or.inl ⟨rfl, ⟨rfl, e2, e3⟩, df 2 rfl⟩)
        · exact Or.inr (Or.inr (Or.inl ⟨rfl, ⟨rfl, e2, e3⟩, df 3 rfl⟩))
        · exact Or.inr (Or.inr (Or.inr (Or.inl ⟨rfl, k, j1, rfl, ⟨rfl, e2, e3⟩, df (4 + k) rfl⟩)))
      obtain ⟨s', t', g1, g2, g3⟩ := r_hand R (y0 := t.1 145 q) ho (e6 z1 z2) q9 N e4 ch z
      exact ⟨1, s', t', Or.inr rfl, g1, g2, g3⟩
theorem st_set (R0 : Rel p d c h n s t) (v w : Int32) : ∃ x s' t', f_X11_set v w s = some (x, s') ∧ f_X12_set v w t = some (x, t') ∧ Rel p d c h n s' t' := by
  have R := R0.t0
  have fin : ∀ {o k q : Nat} {lo hi : Int} (l u : Int32), l.toInt = lo → u.toInt = hi → CL 64 h ((sI t 101 0 0).1 103 3).toInt v 0 o k q lo hi → (1 : Int32) + v = I q → ¬ v < 0 → ¬ 2 < v → f_X12_set v w t = f_X12_set_j58 v w (f_X12_within w l u (sI t 101 0 0)) (sI t 101 0 0) → ∃ x s' t', f_X11_set v w s = some (x, s') ∧ f_X12_set v w t = some (x, t') ∧ Rel p d c h n s' t' := by
    intro o k q lo hi l u h1 h2 C h3 n0 n2 h4
    obtain ⟨a1, a2⟩ := r_val R C w
    by_cases z : w.toInt < lo ∨ hi < w.toInt
    · refine ⟨0, s, _, ?_, ?_, R⟩
      · unfold f_X11_set
        rw [if_neg n0, if_neg n2, a1 z, bnd2_t, if_pos (Eq.refl _)]
      · rw [h4, within_0 (by rw [h1, h2]; exact z)]
        unfold f_X12_set_j58
        rw [if_pos (Eq.refl _)]
    · obtain ⟨r, s', t', r01, b1, b2, b3⟩ := a2 (by omega) (by omega)
      refine ⟨r, s', t', ?_, ?_, b3⟩
      · unfold f_X11_set
        rw [if_neg n0, if_neg n2, b1, bnd2_t]
        rcases r01 with rfl | rfl
        · rw [if_pos (Eq.refl _)]
        · rw [if_neg one_ne]
      · rw [h4, within_1 (by rw [h1, h2]; omega)]
        unfold f_X12_set_j58
        rw [if_neg one_ne, h3, b2, bnd2_t]
        rcases r01 with rfl | rfl
        · rw [if_pos (Eq.refl _)]
        · rw [if_neg one_ne]
  by_cases z0 : v = 0
  · subst z0
    refine fin (1 : Int32) ((sI t 101 0 0).1 103 3) (by decide) rfl (Or.inl ⟨rfl, rfl, rfl, rfl, rfl, rfl⟩) (by decide) (by decide) (by decide) ?_
    unfold f_X12_set
    rw [ltb_t (a := sI t 101 0 0), if_pos (Eq.refl _)]
  by_cases z1 : v = 1
  · subst z1
    refine fin (0 : Int32) (200 : Int32) (by decide) (by decide) (Or.inr (Or.inl ⟨rfl, rfl, rfl, rfl, rfl, rfl⟩)) (by decide) (by decide) (by decide) ?_
    unfold f_X12_set
    rw [ltb_t (a := sI t 101 0 0), if_neg z0, if_pos (Eq.refl _)]
  by_cases z2 : v = 2
  · subst z2
    refine fin (1 : Int32) (2 : Int32) (by decide) (by decide) (Or.inr (Or.inr (Or.inl ⟨rfl, rfl, rfl, rfl, rfl, rfl⟩))) (by decide) (by decide) (by decide) ?_
    unfold f_X12_set
    rw [ltb_t (a := sI t 101 0 0), if_neg z0, if_neg z1, if_pos (Eq.refl _)]
    by_cases y : w.toInt < (1 : Int32).toInt ∨ (2 : Int32).toInt < w.toInt
    · rw [within_0 y, if_pos (Eq.refl _)]
      rfl
    · rw [within_1 (by omega), if_neg one_ne]
  · refine ⟨0, s, _, ?_, ?_, R⟩
    · unfold f_X11_set
      by_cases y1 : v < 0
      · rw [if_pos y1]
      · by_cases y2 : 2 < v
        · rw [if_neg y1, if_pos y2]
        · exfalso
          rw [Int32.lt_iff_toInt_lt] at y1 y2
          have i0 : (0 : Int32).toInt = 0 := by decide
          have i1 : (1 : Int32).toInt = 1 := by decide
          have i2 : (2 : Int32).toInt = 2 := by decide
          rw [← Int32.toInt_inj] at z0 z1 z2
          omega
    · unfold f_X12_set
      rw [ltb_t (a := sI t 101 0 0), if_neg z0, if_neg z1, if_neg z2]
      unfold f_X12_set_j57 f_X12_set_j58
      rw [if_pos (Eq.refl _)]
theorem st_heats (R0 : Rel p d c h n s t) (v w : Int32) : ∃ x s' t', f_X11_heats v w s = some (x, s') ∧ f_X12_heats v w t = some (x, t') ∧ Rel p d c h n s' t' := by
  have R := R0.t0
  have hh := R.2.1.n6
  have i0 : (0 : Int32).toInt = 0 := by decide
  have i99 : (99 : Int32).toInt = 99 := by decide
  rcases small v h (by omega) with ⟨k, k1, rfl⟩ | z
  · by_cases kh : k = h
    · subst kh
      refine ⟨0, s, _, ?_, ?_, R⟩
      · have v0 : f_X7_valueOf 64 p 4 (I k) s = some (-1) := by
          unfold f_X7_valueOf
          rw [if_neg (by decide), if_neg (by decide), if_neg (by decide), if_neg (by decide), if_pos (by decide), if_neg (by rw [I0, I_lt (by omega) (by omega)]; omega), R.2.1.hc, if_pos (Int32.le_refl _)]
        unfold f_X11_heats f_X11_changeByHand f_X7_change
        rw [R.1.1, R.2.1.1, gd_t, v0, bnd_t, gd_t, bnd_t, if_pos (Eq.refl _), bnd2_t, if_pos (Eq.refl _), bnd2_t, isb01.1, gd_t]
      · have ng : f_X12_isThing (I k) (sI t 101 0 0) = 0 := by
          unfold f_X12_isThing
          rw [if_neg (by rw [I0, I_lt (by omega) (by omega)]; omega), R.2.1.hm, if_pos (Int32.le_refl _)]
        unfold f_X12_heats
        rw [ltb_t (a := sI t 101 0 0), ng, if_pos (Eq.refl _)]
    · have ng : f_X12_isThing (I k) (sI t 101 0 0) = 1 := by
        unfold f_X12_isThing
        rw [if_neg (by rw [I0, I_lt (by omega) (by omega)]; omega), R.2.1.hm, if_neg (by rw [I_le (by omega) (by omega)]; omega)]
      obtain ⟨a1, a2⟩ := r_val R (w := 4) (x := I k) (Or.inr (Or.inr (Or.inr ⟨rfl, k, by omega, rfl, rfl, rfl, rfl, rfl, rfl⟩))) w
      by_cases z : w.toInt < 0 ∨ 99 < w.toInt
      · refine ⟨0, s, _, ?_, ?_, R⟩
        · unfold f_X11_heats
          rw [a1 z, bnd2_t, isb01.1, gd_t]
        · unfold f_X12_heats
          rw [ltb_t (a := sI t 101 0 0), ng, if_neg one_ne, within_0 (by rw [i0, i99]; exact z), if_pos (Eq.refl _)]
      · obtain ⟨r, s', t', r01, b1, b2, b3⟩ := a2 (by omega) (by omega)
        refine ⟨r, s', t', ?_, ?_, b3⟩
        · unfold f_X11_heats
          rw [b1, bnd2_t]
          rcases r01 with rfl | rfl
          · rw [isb01.1, gd_t]
          · rw [isb01.2, gd_t]
        · unfold f_X12_heats
          rw [ltb_t (a := sI t 101 0 0), ng, if_neg one_ne, within_1 (by rw [i0, i99]; omega), if_neg one_ne, show (4 : Int32) = I 4 from litI 4, I_add, b2, bnd2_t]
          rcases r01 with rfl | rfl
          · rw [if_pos (Eq.refl _)]
          · rw [if_neg one_ne]
  · refine ⟨0, s, _, ?_, ?_, R⟩
    · have v0 : f_X7_valueOf 64 p 4 v s = some (-1) := by
        unfold f_X7_valueOf
        rw [if_neg (by decide), if_neg (by decide), if_neg (by decide), if_neg (by decide), if_pos (by decide)]
        by_cases y : v < 0
        · rw [if_pos y]
        · rw [Int32.lt_iff_toInt_lt, i0] at y
          rw [if_neg (by rw [Int32.lt_iff_toInt_lt, i0]; exact y), R.2.1.hc, if_pos (by rw [Int32.le_iff_toInt_le, I_toInt (by omega)]; omega)]
      unfold f_X11_heats f_X11_changeByHand f_X7_change
      rw [R.1.1, R.2.1.1, gd_t, v0, bnd_t, gd_t, bnd_t, if_pos (Eq.refl _), bnd2_t, if_pos (Eq.refl _), bnd2_t, isb01.1, gd_t]
    · have ng : f_X12_isThing v (sI t 101 0 0) = 0 := by
        unfold f_X12_isThing
        by_cases y : v < 0
        · rw [if_pos y]
        · rw [Int32.lt_iff_toInt_lt, i0] at y
          rw [if_neg (by rw [Int32.lt_iff_toInt_lt, i0]; exact y), R.2.1.hm, if_pos (by rw [Int32.le_iff_toInt_le, I_toInt (by omega)]; omega)]
      unfold f_X12_heats
      rw [ltb_t (a := sI t 101 0 0), ng, if_pos (Eq.refl _)]
end SETS
