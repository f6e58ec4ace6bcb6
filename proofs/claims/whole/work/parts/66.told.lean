/-! What is told of the days -/
def LA1 : List (Nat × Nat) := [(1, 11), (64, 0), (65, 0), (66, 0), (67, 0), (68, 0), (81, 0), (82, 0), (83, 0), (84, 0), (85, 0), (86, 0), (87, 0), (88, 0), (89, 0), (90, 0), (91, 0), (92, 0), (93, 0), (94, 0), (95, 0), (96, 0), (97, 0), (98, 0), (99, 0), (100, 0)]
def LA2 : List (Nat × Nat) := [(101, 1), (101, 61), (135, 0), (136, 0), (137, 0), (138, 0), (139, 0), (140, 0), (141, 0), (142, 0), (143, 0), (144, 0), (145, 0), (147, 0), (149, 0)]
section TOLD
variable {p d c h n a a' r r' : Nat} {s t s' t' : HS}
theorem Rel.asm (R : Rel p d c h n s t) (f : Fr LA1 s s') (g : Fr LA2 t t') (A : HR 64 h n s' t') (D : DT 64 0 h n s' t') (M : MK h n s' t') (U : UN h n s' t') : Rel p d c h n s' t' := by
  obtain ⟨⟨r1, r2, r3, r4⟩, b1, b2, b3, b4, b5, b6, b7, b8, b9⟩ := R
  have av : av1 p LA1 = true := by rcases okX4_c b1.1 with rfl | rfl <;> decide
  refine ⟨⟨by rw [f.2.2.1 (by decide)]; exact r1, by rw [f.2.2.2.1 (by decide)]; exact r2, r3, r4⟩, b1.fr f g av (by decide), A, b3.fr b1.1 f g av (by decide), b4.fr b1.1 b1.n6 f g av (by decide), by rw [g.1 _ _ (by decide), g.1 _ _ (by decide), g.1 _ _ (by decide)]; exact b5, ?_, D, M, U⟩
  unfold TP
  rw [f.1 _ _ (by decide), g.1 _ _ (by decide), f.o (by decide), g.o (by decide)]; exact b6
def CPs (a a' : Nat) (s s' : HS) : Prop := (s'.1 a' 6 = s.1 a 6 ∧ s'.1 a' 8 = s.1 a 8 ∧ s'.1 a' 10 = s.1 a 10) ∧ (∀ m, m ≤ 40 → s.1 a 6 = I m → ∀ i, i < 3 * m → s'.1 (a' + 2) i = s.1 (a + 2) i) ∧ (∀ i, i < 20 → s'.1 (a' + 3) i = s.1 (a + 3) i) ∧ (∀ i, i < 12 → s'.1 (a' + 4) i = s.1 (a + 4) i)
def CPr (r r' : Nat) (t t' : HS) : Prop := (t'.1 135 r' = t.1 135 r ∧ t'.1 139 r' = t.1 139 r ∧ t'.1 142 r' = t.1 142 r) ∧ (∀ i, i < 40 → t'.1 136 (40 * r' + i) = t.1 136 (40 * r + i) ∧ t'.1 137 (40 * r' + i) = t.1 137 (40 * r + i) ∧ t'.1 138 (40 * r' + i) = t.1 138 (40 * r + i)) ∧ (∀ i, i < 10 → t'.1 140 (10 * r' + i) = t.1 140 (10 * r + i) ∧ t'.1 141 (10 * r' + i) = t.1 141 (10 * r + i)) ∧ (∀ i, i < 6 → t'.1 143 (6 * r' + i) = t.1 143 (6 * r + i) ∧ t'.1 144 (6 * r' + i) = t.1 144 (6 * r + i))
theorem DT.cg (D : DT a r h n s t) (C : CPs a a' s s') (E : CPr r r' t t') : DT a' r' h n s' t' := by
  obtain ⟨⟨c1, c2, c3⟩, c4, c5, c6⟩ := C
  obtain ⟨⟨e1, e2, e3⟩, e4, e5, e6⟩ := E
  obtain ⟨⟨m, m1, m2, m3, m4⟩, ⟨k, k1, k2, k3, k4⟩, ⟨l, l1, l2, l3, l4⟩⟩ := D
  refine ⟨⟨m, m1, by rw [c1, m2], by rw [e1, m3], fun i hi => ?_⟩, ⟨k, k1, by rw [c2, k2], by rw [e2, k3], fun i hi => ?_⟩, ⟨l, l1, by rw [c3, l2], by rw [e3, l3], fun i hi => ?_⟩⟩
  · obtain ⟨q1, q2, q3⟩ := e4 i (by omega)
    rw [c4 m m1 m2 (3 * i) (by omega), c4 m m1 m2 (3 * i + 1) (by omega), c4 m m1 m2 (3 * i + 2) (by omega), q1, q2, q3]
    exact m4 i hi
  · obtain ⟨q1, q2⟩ := e5 i (by omega)
    rw [c5 (2 * i) (by omega), c5 (2 * i + 1) (by omega), q1, q2]
    exact k4 i hi
  · obtain ⟨q1, q2⟩ := e6 i (by omega)
    rw [c6 (2 * i) (by omega), c6 (2 * i + 1) (by omega), q1, q2]
    exact l4 i hi
theorem mS_o (L : List (Nat × Nat)) (e9 : ∀ k, k < 20 → wo L (81 + k) = false) {m : Nat} (hm : m < 4) : ∀ j, j < 5 → wo L (mS m + j) = false := fun j hj => by
  have := e9 (5 * m + j) (by omega)
  rw [show mS m + j = 81 + (5 * m + j) from by unfold mS; omega]; exact this
/-- the marks stay as they are -/
theorem MK.row {L : List (Nat × Nat)} (M : MK h n s t) (f : Fr L s s') (e9 : ∀ k, k < 20 → wo L (81 + k) = false) (g1 : t'.1 149 = t.1 149) (g2 : t'.1 147 = t.1 147) (g3 : t'.1 103 = t.1 103) (E : ∀ m, m < 4 → CPr (1 + m) (1 + m) t t') : MK h n s' t' := by
  intro m hm
  obtain ⟨q1, q2, q3⟩ := M m hm
  have z := mS_o L e9 hm
  have z0 := z 0 (by omega)
  rw [Nat.add_zero] at z0
  refine ⟨by rw [f.o z0, g1]; exact q1, by rw [g1]; exact q2, fun w => ?_⟩
  rw [g1] at w
  obtain ⟨v1, v2⟩ := q3 w
  refine ⟨?_, v2.cg ⟨⟨by rw [f.o z0], by rw [f.o z0], by rw [f.o z0]⟩, fun _ _ _ i _ => by rw [f.o (z 2 (by omega))], fun i _ => by rw [f.o (z 3 (by omega))], fun i _ => by rw [f.o (z 4 (by omega))]⟩ (E m hm)⟩
  unfold HRm
  rw [f.o z0, f.o (z 1 (by omega)), g2, g3]; exact v1
theorem UN.cg (U : UN h n s t) (hh : h ≤ 5) (e1 : s'.1 1 10 = s.1 1 10) (e2 : s'.1 34 = s.1 34) (e3 : t'.1 101 60 = t.1 101 60) (e4 : t'.1 148 = t.1 148) (e5 : ∀ q, q < 9 → t'.1 145 q = t.1 145 q) (e6 : t'.1 103 = t.1 103) : UN h n s' t' := by
  obtain ⟨m, m1, m2, m3, m4⟩ := U
  refine ⟨m, m1, by rw [e1, m2], by rw [e3, m3], fun k hk => ?_⟩
  rw [e2, e6]
  refine (m4 k hk).cg (Eq.refl _) (Eq.refl _) (Eq.refl _) hh (fun q hq => by rw [e4]) (fun q hq => ?_)
  by_cases z : k + 1 < m
  · rw [if_pos z, if_pos z, e4]
  · rw [if_neg z, if_neg z, e5 q hq]
theorem st_sell (R0 : Rel p d c h n s t) (v w : Int32) : ∃ x s' t', f_X11_sell v w s = some (x, s') ∧ f_X12_sell v w t = some (x, t') ∧ Rel p d c h n s' t' := by
  have R := R0.t0
  have hh := R.2.1.n6
  have i0 : (0 : Int32).toInt = 0 := by decide
  have i9 : (9 : Int32).toInt = 9 := by decide
  have i99 : (99 : Int32).toInt = 99 := by decide
  obtain ⟨DL, DO, DE⟩ := R.2.2.2.2.2.2.2.1
  obtain ⟨m, m1, m2, m3, m4⟩ := DO
  by_cases z1 : v < 0
  · refine ⟨0, s, _, by unfold f_X11_sell; rw [if_pos z1], ?_, R⟩
    rw [Int32.lt_iff_toInt_lt] at z1
    unfold f_X12_sell
    rw [ltb_t (a := sI t 101 0 0), within_0 (Or.inl z1), if_pos (Eq.refl _)]
  by_cases z2 : 9 < v
  · refine ⟨0, s, _, by unfold f_X11_sell; rw [if_neg z1, if_pos z2], ?_, R⟩
    rw [Int32.lt_iff_toInt_lt] at z2
    unfold f_X12_sell
    rw [ltb_t (a := sI t 101 0 0), within_0 (Or.inr z2), if_pos (Eq.refl _)]
  have wv : f_X12_within v 0 9 (sI t 101 0 0) = 1 := within_1 (by rw [Int32.lt_iff_toInt_lt] at z1 z2; omega)
  by_cases z3 : w < 0
  · refine ⟨0, s, _, by unfold f_X11_sell; rw [if_neg z1, if_neg z2, if_pos z3], ?_, R⟩
    rw [Int32.lt_iff_toInt_lt] at z3
    unfold f_X12_sell
    rw [ltb_t (a := sI t 101 0 0), wv, if_neg one_ne, within_0 (Or.inl z3), if_pos (Eq.refl _)]
  by_cases z4 : 99 < w
  · refine ⟨0, s, _, by unfold f_X11_sell; rw [if_neg z1, if_neg z2, if_neg z3, if_pos z4], ?_, R⟩
    rw [Int32.lt_iff_toInt_lt] at z4
    unfold f_X12_sell
    rw [ltb_t (a := sI t 101 0 0), wv, if_neg one_ne, within_0 (Or.inr z4), if_pos (Eq.refl _)]
  have ww : f_X12_within w 0 99 (sI t 101 0 0) = 1 := within_1 (by rw [Int32.lt_iff_toInt_lt] at z3 z4; omega)
  have c0 : f_X11_sell v w s = if (s.1 64 8) < 10 then gd (inb ((s.1 64 8) * 2) 20) (ltb (sI s 67 (((s.1 64 8) * 2).toNatClampNeg) v) fun s6 => gd (inb (((s6.1 64 8) * 2) + 1) 20) (ltb (sI s6 67 ((((s6.1 64 8) * 2) + 1).toNatClampNeg) w) fun s8 => ltb (sI s8 64 8 ((s8.1 64 8) + 1)) fun s10 => some (1, s10))) else some (0, s) := by
    unfold f_X11_sell
    rw [if_neg z1, if_neg z2, if_neg z3, if_neg z4]
  by_cases z5 : m = 10
  · subst z5
    refine ⟨0, s, _, by rw [c0, m2, if_neg (by decide)], ?_, R⟩
    unfold f_X12_sell
    rw [ltb_t (a := sI t 101 0 0), wv, if_neg one_ne, ww, if_neg one_ne, m3, if_pos (by decide)]
  · have mul2 : I m * (2 : Int32) = I (2 * m) := by rw [show (2 : Int32) = I 2 from litI 2, I_mul, Nat.mul_comm]
    have j1 : inb (I (2 * m)) 20 = true := inb_t (by omega) (by omega)
    have j2 : inb (I (2 * m + 1)) 20 = true := inb_t (by omega) (by omega)
    have j3 : inb (I m) 50 = true := inb_t (by omega) (by omega)
    have k1 : (I (2 * m)).toNatClampNeg = 2 * m := I_nat (by omega)
    have k2 : (I (2 * m + 1)).toNatClampNeg = 2 * m + 1 := I_nat (by omega)
    have k3 : (I m).toNatClampNeg = m := I_nat (by omega)
    have l10 : I m < 10 := by rw [show (10 : Int32) = I 10 from litI 10, I_lt (by omega) (by omega)]; omega
    have n10 : ¬ I m = 10 := by rw [show (10 : Int32) = I 10 from litI 10, I_inj (by omega) (by omega)]; omega
    refine ⟨1, sI (sI (sI s 67 (2 * m) v) 67 (2 * m + 1) w) 64 8 (I (m + 1)), sI (sI (sI (sI t 101 0 0) 140 m v) 141 m w) 139 0 (I (m + 1)), ?_, ?_, ?_⟩
    · rw [c0, m2, if_pos l10, mul2, j1, gd_t, ltb_t, k1, sI_n _ _ _ (by decide), m2, mul2, I_p1, j2, gd_t, ltb_t, k2, ltb_t, sI_n _ _ _ (by decide), sI_n _ _ _ (by decide), m2, I_p1]
    · have o1 : (sI (sI t 101 0 0) 140 m v).1 139 0 = I m := by rw [sI_n _ _ _ (by decide)]; exact m3
      have o2 : (sI (sI (sI t 101 0 0) 140 m v) 141 m w).1 139 0 = I m := by rw [sI_n _ _ _ (by decide)]; exact o1
      unfold f_X12_sell
      rw [ltb_t (a := sI t 101 0 0), wv, if_neg one_ne, ww, if_neg one_ne, m3, if_neg n10, j3, gd_t, k3, ltb_t, o1, j3, gd_t, k3, ltb_t, o2, ltb_t, I_p1]
    · have f : Fr [(64, 9), (67, 0)] s (sI (sI (sI s 67 (2 * m) v) 67 (2 * m + 1) w) 64 8 (I (m + 1))) := (fr_sI (by simp [wm])).trans ((fr_sI (by simp [wm])).trans (fr_sI (by decide)))
      have g : Fr [(139, 1), (140, 0), (141, 0)] (sI t 101 0 0) (sI (sI (sI (sI t 101 0 0) 140 m v) 141 m w) 139 0 (I (m + 1))) := (fr_sI (by simp [wm])).trans ((fr_sI (by simp [wm])).trans (fr_sI (by decide)))
      have o3 : (sI (sI (sI (sI t 101 0 0) 140 m v) 141 m w) 139 0 (I (m + 1))).1 103 = (sI t 101 0 0).1 103 := g.o (by decide)
      have o4 : (sI (sI (sI (sI t 101 0 0) 140 m v) 141 m w) 139 0 (I (m + 1))).1 145 = (sI t 101 0 0).1 145 := g.o (by decide)
      refine R.asm (f.mono (by decide)) (g.mono (by decide)) (R.2.2.1.c9 hh.2.1 (fun q _ => by rw [o4]) o3 |> fun A => ?_) ⟨?_, ⟨m + 1, by omega, by rw [sI_k], by rw [sI_k], fun i hi => ?_⟩, ?_⟩ (R.2.2.2.2.2.2.2.2.1.row f (by decide) (g.o (by decide)) (g.o (by decide)) o3 (fun m' hm' => ?_)) (R.2.2.2.2.2.2.2.2.2.cg hh.2.1 (f.1 _ _ (by decide)) (f.o (by decide)) (g.1 _ _ (by decide)) (g.o (by decide)) (fun q _ => by rw [o4]) o3)
      · obtain ⟨a1, a2, a3, a4, a5, a6⟩ := A
        rw [show Rf 64 4 = 65 from by decide] at a6
        refine ⟨a1, by rw [f.1 _ _ (by decide)]; exact a2, by rw [f.1 _ _ (by decide)]; exact a3, by rw [f.1 _ _ (by decide)]; exact a4, by rw [f.1 _ _ (by decide)]; exact a5, fun i hi => ?_⟩
        rw [show Rf 64 4 = 65 from by decide, f.o (by decide)]; exact a6 i hi
      · obtain ⟨q, q1, q2, q3, q4⟩ := DL
        refine ⟨q, q1, by rw [f.1 _ _ (by decide)]; exact q2, by rw [g.o (by decide)]; exact q3, fun i hi => ?_⟩
        rw [f.o (o := 64 + 2) (by decide), g.o (o := 136) (by decide), g.o (o := 137) (by decide), g.o (o := 138) (by decide)]; exact q4 i hi
      · have e67 : ∀ j, (sI (sI (sI s 67 (2 * m) v) 67 (2 * m + 1) w) 64 8 (I (m + 1))).1 67 j = if j = 2 * m + 1 then w else if j = 2 * m then v else s.1 67 j := fun j => by
          rw [sI_n _ _ _ (by decide), sI_s, sI_s]
        have e140 : ∀ j, (sI (sI (sI (sI t 101 0 0) 140 m v) 141 m w) 139 0 (I (m + 1))).1 140 j = if j = m then v else (sI t 101 0 0).1 140 j := fun j => by
          rw [sI_n _ _ _ (by decide), sI_n _ _ _ (by decide), sI_s]
        have e141 : ∀ j, (sI (sI (sI (sI t 101 0 0) 140 m v) 141 m w) 139 0 (I (m + 1))).1 141 j = if j = m then w else (sI t 101 0 0).1 141 j := fun j => by
          rw [sI_n _ _ _ (by decide), sI_s, sI_n _ _ _ (by decide)]
        rw [show 64 + 3 = 67 from rfl, e67, e67, e140, e141, show 10 * 0 + i = i from by omega]
        by_cases y : i = m
        · subst y
          rw [if_neg (by omega), if_pos (Eq.refl _), if_pos (Eq.refl _), if_pos (Eq.refl _), if_pos (Eq.refl _)]
          exact ⟨rfl, rfl⟩
        · rw [if_neg (by omega), if_neg (by omega), if_neg (by omega), if_neg (by omega), if_neg (by omega), if_neg (by omega)]
          have := m4 i (by omega)
          rw [show 10 * 0 + i = i from by omega] at this
          exact this
      · obtain ⟨q, q1, q2, q3, q4⟩ := DE
        refine ⟨q, q1, by rw [f.1 _ _ (by decide)]; exact q2, by rw [g.o (by decide)]; exact q3, fun i hi => ?_⟩
        rw [f.o (o := 64 + 4) (by decide), g.o (o := 143) (by decide), g.o (o := 144) (by decide)]; exact q4 i hi
      · refine ⟨⟨by rw [g.o (by decide)], g.1 _ _ (by simp [wm]), by rw [g.o (by decide)]⟩, fun i _ => ⟨by rw [g.o (by decide)], by rw [g.o (by decide)], by rw [g.o (by decide)]⟩, fun i hi => ⟨?_, ?_⟩, fun i _ => ⟨by rw [g.o (by decide)], by rw [g.o (by decide)]⟩⟩
        · rw [sI_n _ _ _ (by decide), sI_n _ _ _ (by decide), sI_s, if_neg (by omega)]
        · rw [sI_n _ _ _ (by decide), sI_s, if_neg (by omega), sI_n _ _ _ (by decide)]
theorem st_see (R0 : Rel p d c h n s t) (v w : Int32) : ∃ x s' t', f_X11_see v w s = some (x, s') ∧ f_X12_see v w t = some (x, t') ∧ Rel p d c h n s' t' := by
  have R := R0.t0
  have hh := R.2.1.n6
  have i0 : (0 : Int32).toInt = 0 := by decide
  have i9 : (900 : Int32).toInt = 900 := by decide
  have i99 : (6 : Int32).toInt = 6 := by decide
  obtain ⟨DL, DO, DE⟩ := R.2.2.2.2.2.2.2.1
  obtain ⟨m, m1, m2, m3, m4⟩ := DE
  by_cases z1 : v < 0
  · refine ⟨0, s, _, by unfold f_X11_see; rw [if_pos z1], ?_, R⟩
    rw [Int32.lt_iff_toInt_lt] at z1
    unfold f_X12_see
    rw [ltb_t (a := sI t 101 0 0), within_0 (Or.inl z1), if_pos (Eq.refl _)]
  by_cases z2 : 900 < v
  · refine ⟨0, s, _, by unfold f_X11_see; rw [if_neg z1, if_pos z2], ?_, R⟩
    rw [Int32.lt_iff_toInt_lt] at z2
    unfold f_X12_see
    rw [ltb_t (a := sI t 101 0 0), within_0 (Or.inr z2), if_pos (Eq.refl _)]
  have wv : f_X12_within v 0 900 (sI t 101 0 0) = 1 := within_1 (by rw [Int32.lt_iff_toInt_lt] at z1 z2; omega)
  by_cases z3 : w < 0
  · refine ⟨0, s, _, by unfold f_X11_see; rw [if_neg z1, if_neg z2, if_pos z3], ?_, R⟩
    rw [Int32.lt_iff_toInt_lt] at z3
    unfold f_X12_see
    rw [ltb_t (a := sI t 101 0 0), wv, if_neg one_ne, within_0 (Or.inl z3), if_pos (Eq.refl _)]
  by_cases z4 : 6 < w
  · refine ⟨0, s, _, by unfold f_X11_see; rw [if_neg z1, if_neg z2, if_neg z3, if_pos z4], ?_, R⟩
    rw [Int32.lt_iff_toInt_lt] at z4
    unfold f_X12_see
    rw [ltb_t (a := sI t 101 0 0), wv, if_neg one_ne, within_0 (Or.inr z4), if_pos (Eq.refl _)]
  have ww : f_X12_within w 0 6 (sI t 101 0 0) = 1 := within_1 (by rw [Int32.lt_iff_toInt_lt] at z3 z4; omega)
  have c0 : f_X11_see v w s = if (s.1 64 10) < 6 then gd (inb ((s.1 64 10) * 2) 12) (ltb (sI s 68 (((s.1 64 10) * 2).toNatClampNeg) v) fun s6 => gd (inb (((s6.1 64 10) * 2) + 1) 12) (ltb (sI s6 68 ((((s6.1 64 10) * 2) + 1).toNatClampNeg) w) fun s8 => ltb (sI s8 64 10 ((s8.1 64 10) + 1)) fun s10 => some (1, s10))) else some (0, s) := by
    unfold f_X11_see
    rw [if_neg z1, if_neg z2, if_neg z3, if_neg z4]
  by_cases z5 : m = 6
  · subst z5
    refine ⟨0, s, _, by rw [c0, m2, if_neg (by decide)], ?_, R⟩
    unfold f_X12_see
    rw [ltb_t (a := sI t 101 0 0), wv, if_neg one_ne, ww, if_neg one_ne, m3, if_pos (by decide)]
  · have mul2 : I m * (2 : Int32) = I (2 * m) := by rw [show (2 : Int32) = I 2 from litI 2, I_mul, Nat.mul_comm]
    have j1 : inb (I (2 * m)) 12 = true := inb_t (by omega) (by omega)
    have j2 : inb (I (2 * m + 1)) 12 = true := inb_t (by omega) (by omega)
    have j3 : inb (I m) 30 = true := inb_t (by omega) (by omega)
    have k1 : (I (2 * m)).toNatClampNeg = 2 * m := I_nat (by omega)
    have k2 : (I (2 * m + 1)).toNatClampNeg = 2 * m + 1 := I_nat (by omega)
    have k3 : (I m).toNatClampNeg = m := I_nat (by omega)
    have l10 : I m < 6 := by rw [show (6 : Int32) = I 6 from litI 6, I_lt (by omega) (by omega)]; omega
    have n10 : ¬ I m = 6 := by rw [show (6 : Int32) = I 6 from litI 6, I_inj (by omega) (by omega)]; omega
    refine ⟨1, sI (sI (sI s 68 (2 * m) v) 68 (2 * m + 1) w) 64 10 (I (m + 1)), sI (sI (sI (sI t 101 0 0) 143 m v) 144 m w) 142 0 (I (m + 1)), ?_, ?_, ?_⟩
    · rw [c0, m2, if_pos l10, mul2, j1, gd_t, ltb_t, k1, sI_n _ _ _ (by decide), m2, mul2, I_p1, j2, gd_t, ltb_t, k2, ltb_t, sI_n _ _ _ (by decide), sI_n _ _ _ (by decide), m2, I_p1]
    · have o1 : (sI (sI t 101 0 0) 143 m v).1 142 0 = I m := by rw [sI_n _ _ _ (by decide)]; exact m3
      have o2 : (sI (sI (sI t 101 0 0) 143 m v) 144 m w).1 142 0 = I m := by rw [sI_n _ _ _ (by decide)]; exact o1
      unfold f_X12_see
      rw [ltb_t (a := sI t 101 0 0), wv, if_neg one_ne, ww, if_neg one_ne, m3, if_neg n10, j3, gd_t, k3, ltb_t, o1, j3, gd_t, k3, ltb_t, o2, ltb_t, I_p1]
    · have f : Fr [(64, 11), (68, 0)] s (sI (sI (sI s 68 (2 * m) v) 68 (2 * m + 1) w) 64 10 (I (m + 1))) := (fr_sI (by simp [wm])).trans ((fr_sI (by simp [wm])).trans (fr_sI (by decide)))
      have g : Fr [(142, 1), (143, 0), (144, 0)] (sI t 101 0 0) (sI (sI (sI (sI t 101 0 0) 143 m v) 144 m w) 142 0 (I (m + 1))) := (fr_sI (by simp [wm])).trans ((fr_sI (by simp [wm])).trans (fr_sI (by decide)))
      have o3 : (sI (sI (sI (sI t 101 0 0) 143 m v) 144 m w) 142 0 (I (m + 1))).1 103 = (sI t 101 0 0).1 103 := g.o (by decide)
      have o4 : (sI (sI (sI (sI t 101 0 0) 143 m v) 144 m w) 142 0 (I (m + 1))).1 145 = (sI t 101 0 0).1 145 := g.o (by decide)
      refine R.asm (f.mono (by decide)) (g.mono (by decide)) (R.2.2.1.c9 hh.2.1 (fun q _ => by rw [o4]) o3 |> fun A => ?_) ⟨?_, ?_, ⟨m + 1, by omega, by rw [sI_k], by rw [sI_k], fun i hi => ?_⟩⟩ (R.2.2.2.2.2.2.2.2.1.row f (by decide) (g.o (by decide)) (g.o (by decide)) o3 (fun m' hm' => ?_)) (R.2.2.2.2.2.2.2.2.2.cg hh.2.1 (f.1 _ _ (by decide)) (f.o (by decide)) (g.1 _ _ (by decide)) (g.o (by decide)) (fun q _ => by rw [o4]) o3)
      · obtain ⟨a1, a2, a3, a4, a5, a6⟩ := A
        rw [show Rf 64 4 = 65 from by decide] at a6
        refine ⟨a1, by rw [f.1 _ _ (by decide)]; exact a2, by rw [f.1 _ _ (by decide)]; exact a3, by rw [f.1 _ _ (by decide)]; exact a4, by rw [f.1 _ _ (by decide)]; exact a5, fun i hi => ?_⟩
        rw [show Rf 64 4 = 65 from by decide, f.o (by decide)]; exact a6 i hi
      · obtain ⟨q, q1, q2, q3, q4⟩ := DL
        refine ⟨q, q1, by rw [f.1 _ _ (by decide)]; exact q2, by rw [g.o (by decide)]; exact q3, fun i hi => ?_⟩
        rw [f.o (o := 64 + 2) (by decide), g.o (o := 136) (by decide), g.o (o := 137) (by decide), g.o (o := 138) (by decide)]; exact q4 i hi
      · obtain ⟨q, q1, q2, q3, q4⟩ := DO
        refine ⟨q, q1, by rw [f.1 _ _ (by decide)]; exact q2, by rw [g.o (by decide)]; exact q3, fun i hi => ?_⟩
        rw [f.o (o := 64 + 3) (by decide), g.o (o := 140) (by decide), g.o (o := 141) (by decide)]; exact q4 i hi
      · have e68 : ∀ j, (sI (sI (sI s 68 (2 * m) v) 68 (2 * m + 1) w) 64 10 (I (m + 1))).1 68 j = if j = 2 * m + 1 then w else if j = 2 * m then v else s.1 68 j := fun j => by
          rw [sI_n _ _ _ (by decide), sI_s, sI_s]
        have e143 : ∀ j, (sI (sI (sI (sI t 101 0 0) 143 m v) 144 m w) 142 0 (I (m + 1))).1 143 j = if j = m then v else (sI t 101 0 0).1 143 j := fun j => by
          rw [sI_n _ _ _ (by decide), sI_n _ _ _ (by decide), sI_s]
        have e144 : ∀ j, (sI (sI (sI (sI t 101 0 0) 143 m v) 144 m w) 142 0 (I (m + 1))).1 144 j = if j = m then w else (sI t 101 0 0).1 144 j := fun j => by
          rw [sI_n _ _ _ (by decide), sI_s, sI_n _ _ _ (by decide)]
        rw [show 64 + 4 = 68 from rfl, e68, e68, e143, e144, show 6 * 0 + i = i from by omega]
        by_cases y : i = m
        · subst y
          rw [if_neg (by omega), if_pos (Eq.refl _), if_pos (Eq.refl _), if_pos (Eq.refl _), if_pos (Eq.refl _)]
          exact ⟨rfl, rfl⟩
        · rw [if_neg (by omega), if_neg (by omega), if_neg (by omega), if_neg (by omega), if_neg (by omega), if_neg (by omega)]
          have := m4 i (by omega)
          rw [show 6 * 0 + i = i from by omega] at this
          exact this
      · refine ⟨⟨by rw [g.o (by decide)], by rw [g.o (by decide)], g.1 _ _ (by simp [wm])⟩, fun i _ => ⟨by rw [g.o (by decide)], by rw [g.o (by decide)], by rw [g.o (by decide)]⟩, fun i _ => ⟨by rw [g.o (by decide)], by rw [g.o (by decide)]⟩, fun i hi => ⟨?_, ?_⟩⟩
        · rw [sI_n _ _ _ (by decide), sI_n _ _ _ (by decide), sI_s, if_neg (by omega)]
        · rw [sI_n _ _ _ (by decide), sI_s, if_neg (by omega), sI_n _ _ _ (by decide)]
end TOLD
