/-! mark -/
def LROW : List (Nat × Nat) := [(135, 0), (136, 0), (137, 0), (138, 0), (139, 0), (140, 0), (141, 0), (142, 0), (143, 0), (144, 0)]
section MARK
variable {p d c h n : Nat} {s t : HS}
theorem CWR.keep {o w r r' : Nat} {t t' : HS} (C : CWR o w r r' t t') {q : Nat} (hq : q ≠ r') : ∀ i, i < w → t'.1 o (w * q + i) = t.1 o (w * q + i) := fun i hi => by
  refine C.2 _ ?_
  rcases Nat.lt_or_gt_of_ne hq with z | z
  · left
    have : w * (q + 1) ≤ w * r' := Nat.mul_le_mul_left w z
    rw [Nat.mul_add, Nat.mul_one] at this
    omega
  · right
    have : w * (r' + 1) ≤ w * q := Nat.mul_le_mul_left w z
    rw [Nat.mul_add, Nat.mul_one] at this
    omega
theorem r_rows {r r' : Nat} (h1 : r < 5) (h2 : r' < 5) (ne : r ≠ r') (t : HS) : ∃ t1 t', f_X12_laysLines (I r) (I r') t = some t1 ∧ f_X12_laysTold (I r) (I r') t1 = some t' ∧ Fr LROW t t' ∧ CPr r r' t t' ∧ ∀ q, q ≠ r' → CPr q q t t' := by
  obtain ⟨t1, a1, a2, a3, a4, a5, a6⟩ := r_laysLines (t := t) (show r < 6 by omega) (show r' < 6 by omega) ne
  obtain ⟨t', b1, b2, b3, b4, b5, b6, b7, b8⟩ := r_laysTold (t := t1) h1 h2 ne
  have o5 : t'.1 135 = t1.1 135 := b2.o (by decide)
  have o6 : t'.1 136 = t1.1 136 := b2.o (by decide)
  have o7 : t'.1 137 = t1.1 137 := b2.o (by decide)
  have o8 : t'.1 138 = t1.1 138 := b2.o (by decide)
  have u9 : t1.1 139 = t.1 139 := a2.o (by decide)
  have u0 : t1.1 140 = t.1 140 := a2.o (by decide)
  have u1 : t1.1 141 = t.1 141 := a2.o (by decide)
  have u2 : t1.1 142 = t.1 142 := a2.o (by decide)
  have u3 : t1.1 143 = t.1 143 := a2.o (by decide)
  have u4 : t1.1 144 = t.1 144 := a2.o (by decide)
  have one : ∀ q, 1 * q + 0 = q := fun q => by omega
  refine ⟨t1, t', a1, b1, (a2.mono (by decide)).trans (b2.mono (by decide)), ⟨⟨?_, ?_, ?_⟩, fun i hi => ⟨?_, ?_, ?_⟩, fun i hi => ⟨?_, ?_⟩, fun i hi => ⟨?_, ?_⟩⟩, fun q hq => ⟨⟨?_, ?_, ?_⟩, fun i hi => ⟨?_, ?_, ?_⟩, fun i hi => ⟨?_, ?_⟩, fun i hi => ⟨?_, ?_⟩⟩⟩
  · have := a3.1 0 (by omega); rw [one, one] at this; rw [o5]; exact this
  · have := b3.1 0 (by omega); rw [one, one, u9] at this; exact this
  · have := b6.1 0 (by omega); rw [one, one, u2] at this; exact this
  · rw [o6]; exact a4.1 i hi
  · rw [o7]; exact a5.1 i hi
  · rw [o8]; exact a6.1 i hi
  · rw [b4.1 i hi, u0]
  · rw [b5.1 i hi, u1]
  · rw [b7.1 i hi, u3]
  · rw [b8.1 i hi, u4]
  · have := a3.keep hq 0 (by omega); rw [one] at this; rw [o5]; exact this
  · have := b3.keep hq 0 (by omega); rw [one, u9] at this; exact this
  · have := b6.keep hq 0 (by omega); rw [one, u2] at this; exact this
  · rw [o6]; exact a4.keep hq i hi
  · rw [o7]; exact a5.keep hq i hi
  · rw [o8]; exact a6.keep hq i hi
  · rw [b4.keep hq i hi, u0]
  · rw [b5.keep hq i hi, u1]
  · rw [b7.keep hq i hi, u3]
  · rw [b8.keep hq i hi, u4]
theorem CPr.rw {r r' : Nat} {t t1 t' t2 : HS} (C : CPr r r' t1 t2) (e1 : ∀ o, 135 ≤ o → o ≤ 144 → t1.1 o = t.1 o) (e2 : ∀ o, 135 ≤ o → o ≤ 144 → t'.1 o = t2.1 o) : CPr r r' t t' := by
  unfold CPr at C ⊢
  rw [e2 135 (by omega) (by omega), e2 136 (by omega) (by omega), e2 137 (by omega) (by omega), e2 138 (by omega) (by omega), e2 139 (by omega) (by omega), e2 140 (by omega) (by omega), e2 141 (by omega) (by omega), e2 142 (by omega) (by omega), e2 143 (by omega) (by omega), e2 144 (by omega) (by omega)]
  rw [← e1 135 (by omega) (by omega), ← e1 136 (by omega) (by omega), ← e1 137 (by omega) (by omega), ← e1 138 (by omega) (by omega), ← e1 139 (by omega) (by omega), ← e1 140 (by omega) (by omega), ← e1 141 (by omega) (by omega), ← e1 142 (by omega) (by omega), ← e1 143 (by omega) (by omega), ← e1 144 (by omega) (by omega)]
  exact C
theorem mS_ok : ∀ m, m < 4 → okX7 (mS m) = true ∧ Rf 33 m = mS m ∧ wsub (L7A (mS m)) LA1 = true ∧ wsub [(mS m, 12)] LA1 = true ∧ mS m ≠ 64 := by decide +kernel
theorem mS_ne {m m' : Nat} (h : m ≠ m') : ∀ j, j < 5 → wo (L7A (mS m')) (mS m + j) = false ∧ wo [(mS m', 12)] (mS m + j) = false := fun j hj => by
  unfold mS L7A
  simp [wo]
  omega
theorem mS_64 {m : Nat} : ∀ j, j < 5 → wo (L7A (mS m)) (64 + j) = false ∧ wo [(mS m, 12)] (64 + j) = false := fun j hj => by
  unfold mS L7A
  simp [wo]
  omega
theorem st_mark (R0 : Rel p d c h n s t) (v w : Int32) : ∃ x s' t', f_X11_mark v w s = some (x, s') ∧ f_X12_mark v w t = some (x, t') ∧ Rel p d c h n s' t' := by
  have R := R0.t0
  have hh := R.2.1.n6
  have okp := okX4_c R.2.1.1
  have i0 : (0 : Int32).toInt = 0 := by decide
  have i3 : (3 : Int32).toInt = 3 := by decide
  have i4 : (4 : Int32).toInt = 4 := by decide
  by_cases z1 : v < 0
  · refine ⟨0, s, _, by unfold f_X11_mark; rw [if_pos z1], ?_, R⟩
    rw [Int32.lt_iff_toInt_lt] at z1
    unfold f_X12_mark
    rw [ltb_t (a := sI t 101 0 0), within_0 (Or.inl z1), if_pos (Eq.refl _)]
  by_cases z2 : v < 4
  case neg =>
    refine ⟨0, s, _, by unfold f_X11_mark; rw [if_neg z1, if_neg z2], ?_, R⟩
    rw [Int32.lt_iff_toInt_lt] at z2
    unfold f_X12_mark
    rw [ltb_t (a := sI t 101 0 0), within_0 (Or.inr (by omega)), if_pos (Eq.refl _)]
  have V : ∃ k, k < 4 ∧ v = I k := by
    rw [Int32.lt_iff_toInt_lt] at z1 z2
    exact ⟨v.toInt.toNat, by omega, I_of (by omega)⟩
  obtain ⟨k, k4, rfl⟩ := V
  have wv : f_X12_within (I k) 0 3 (sI t 101 0 0) = 1 := within_1 (by rw [I_toInt (by omega)]; omega)
  have ik : inb (I k) 4 = true := inb_t (by omega) (by omega)
  have kk : (I k).toNatClampNeg = k := I_nat (by omega)
  have vn : vp_nar .boolean 1 = 1 := by decide
  have one1 : (1 : Int32) + I k = I (1 + k) := by rw [show (1 : Int32) = I 1 from litI 1, I_add]
  obtain ⟨ok1, rf1, ws1, ws2, ne64⟩ := mS_ok k k4
  have s1 : f_X11_mark (I k) w s = (if w = 0 then bnd (f_X7_copyAll (mS k) 64 s) fun s11 => ltb (sI s11 (mS k) 11 1) fun s12 => some (1, s12) else (if (s.1 (mS k) 11) = 0 then some (0, s) else bnd (f_X7_copyAll 64 (mS k) s) fun s8 => ltb (sI s8 1 10 0) fun s9 => some (1, s9))) := by
    unfold f_X11_mark
    rw [if_neg z1, if_pos z2, ik, gd_t, ltb_t, kk, rf1]
  obtain ⟨⟨m, m1, m2, m3, m4⟩, -, -⟩ := R.2.2.2.2.2.2.2.1
  obtain ⟨q1, q2, q3⟩ := R.2.2.2.2.2.2.2.2.1 k k4
  have g0 : Fr [(149, 0)] (sI t 101 0 0) (sI (sI t 101 0 0) 149 k 1) := fr_sI (by simp [wm])
  by_cases w0 : w = 0
  · -- marked
    obtain ⟨s2, a1, a2, a3, a4, a5⟩ := r_copyAll (s := s) (a := 64) (a' := mS k) (by decide) ok1 (Ne.symm ne64) m1 m2
    obtain ⟨t2, t3, b1, b2, b3, b4, b5⟩ := r_rows (r := 0) (r' := 1 + k) (by omega) (by omega) (by omega) (sI (sI t 101 0 0) 149 k 1)
    obtain ⟨t4, c1, c2, c3, c4⟩ := r_copies (o := 145) (b := 0) (o' := 147) (b' := 9 * k) (by decide) (show 9 * k + 9 ≤ 36 by omega) (by decide) (by decide) (by decide) t3
    rw [I_e0] at b1 b2 c1
    have f : Fr LA1 s (sI s2 (mS k) 11 1) := (a2.mono ws1).trans ((fr_sI (by simp [wm]) : Fr [(mS k, 12)] s2 (sI s2 (mS k) 11 1)).mono ws2)
    have f12 : Fr [(mS k, 12)] s2 (sI s2 (mS k) 11 1) := fr_sI (by simp [wm])
    have s64 : ∀ j, j < 5 → (sI s2 (mS k) 11 1).1 (64 + j) = s.1 (64 + j) := fun j hj => by rw [f12.o (mS_64 j hj).2, a2.o (mS_64 j hj).1]
    have g : Fr LA2 (sI t 101 0 0) t4 := (g0.mono (by decide)).trans ((b3.mono (by decide)).trans (c2.mono (by decide)))
    have rowO : ∀ o, 135 ≤ o → o ≤ 144 → (sI (sI t 101 0 0) 149 k 1).1 o = (sI t 101 0 0).1 o := fun o h1 h2 => sI_n _ _ _ (by omega)
    have rowN : ∀ o, 135 ≤ o → o ≤ 144 → t4.1 o = t3.1 o := fun o h1 h2 => c2.o (by simp [wo]; omega)
    have e145 : t4.1 145 = (sI t 101 0 0).1 145 := by rw [c2.o (by decide), b3.o (by decide), sI_n _ _ _ (by decide)]
    have us : (sI s2 (mS k) 11 1).1 1 = s.1 1 := by rw [f12.o (by unfold mS; simp [wo]; omega), a2.o (by unfold mS L7A; simp [wo]; omega)]
    have ut : t4.1 101 = (sI t 101 0 0).1 101 := by rw [c2.o (by decide), b3.o (by decide), sI_n _ _ _ (by decide)]
    have e103 : t4.1 103 = (sI t 101 0 0).1 103 := g.o (by decide)
    have e149 : ∀ j, t4.1 149 j = if j = k then 1 else (sI t 101 0 0).1 149 j := fun j => by rw [c2.o (by decide), b3.o (by decide), sI_s]
    have e147 : ∀ j, (j < 9 * k ∨ 9 * k + 9 ≤ j) → t4.1 147 j = (sI t 101 0 0).1 147 j := fun j hj => by rw [c4 j hj, b3.o (by decide), sI_n _ _ _ (by decide)]
    have e147' : ∀ q, q < 9 → t4.1 147 (9 * k + q) = (sI t 101 0 0).1 145 q := fun q hq => by rw [c3 q hq, Nat.zero_add, b3.o (by decide), sI_n _ _ _ (by decide)]
    refine ⟨1, _, t4, by rw [s1, if_pos w0, a1, bnd_t, ltb_t], ?_, R.asm f g (R.2.2.1.eq (s64 0 (by omega)) (s64 1 (by omega)) e145 e103) (R.2.2.2.2.2.2.2.1.cg (a' := 64) (r' := 0) ⟨⟨by rw [s64 0 (by omega)], by rw [s64 0 (by omega)], by rw [s64 0 (by omega)]⟩, fun _ _ _ i _ => by rw [s64 2 (by omega)], fun i _ => by rw [s64 3 (by omega)], fun i _ => by rw [s64 4 (by omega)]⟩ ((b5 0 (by omega)).rw rowO rowN)) (fun m' hm' => ?_) (R.2.2.2.2.2.2.2.2.2.cg hh.2.1 (by rw [us]) (f.o (by decide)) (by rw [ut]) (g.o (by decide)) (fun q _ => by rw [e145]) e103)⟩
    · unfold f_X12_mark
      rw [ltb_t (a := sI t 101 0 0), wv, if_neg one_ne, if_pos w0]
      unfold f_X12_mark_j29 f_X12_mark_j47 f_X12_mark_j59
      rw [ik, gd_t, kk, vn, ltb_t, if_pos w0, if_pos w0, one1, b1, bnd_t, b2, bnd_t, if_pos w0, mul9, c1, bnd_t]
    · by_cases zm : m' = k
      · subst zm
        refine ⟨by rw [sI_k, e149, if_pos (Eq.refl _)], Or.inr (by rw [e149, if_pos (Eq.refl _)]), fun _ => ⟨?_, ?_⟩⟩
        · obtain ⟨-, h1, h2, h3, h4, h5⟩ := R.2.2.1
          rw [show Rf 64 4 = 65 from by decide] at h5
          have hd : ∀ q, q < 4 → (sI s2 (mS m') 11 1).1 (mS m') q = s.1 64 q := fun q hq => by rw [sI_s, if_neg (by omega)]; exact a4 q hq
          refine ⟨?_, ?_, ?_, ?_, fun i hi => ?_⟩
          · rw [hd 0 (by omega), show 9 * m' = 9 * m' + 0 from rfl, e147' 0 (by omega)]; exact h1
          · rw [hd 1 (by omega), e147' 1 (by omega), e103]; exact h2
          · rw [hd 2 (by omega), e147' 2 (by omega)]; exact h3
          · rw [hd 3 (by omega), e147' 3 (by omega)]; exact h4
          · rw [sI_n _ _ _ (by omega), a5 i (by omega), e147' (4 + i) (by omega)]; exact h5 i hi
        · have D := R.2.2.2.2.2.2.2.1.cg a3 (b4.rw rowO rowN)
          obtain ⟨⟨x1, x2, x3⟩, x4, x5, x6⟩ := a3
          refine R.2.2.2.2.2.2.2.1.cg ⟨⟨?_, ?_, ?_⟩, fun m hm he i hi => ?_, fun i hi => ?_, fun i hi => ?_⟩ (b4.rw rowO rowN)
          · rw [sI_s, if_neg (by decide)]; exact x1
          · rw [sI_s, if_neg (by decide)]; exact x2
          · rw [sI_s, if_neg (by decide)]; exact x3
          · rw [sI_n _ _ _ (by omega)]; exact x4 m hm he i hi
          · rw [sI_n _ _ _ (by omega)]; exact x5 i hi
          · rw [sI_n _ _ _ (by omega)]; exact x6 i hi
      · obtain ⟨y1, y2, y3⟩ := R.2.2.2.2.2.2.2.2.1 m' hm'
        have so : ∀ j, j < 5 → (sI s2 (mS k) 11 1).1 (mS m' + j) = s.1 (mS m' + j) := fun j hj => by rw [f12.o (mS_ne zm j hj).2, a2.o (mS_ne zm j hj).1]
        have so0 : (sI s2 (mS k) 11 1).1 (mS m') = s.1 (mS m') := so 0 (by omega)
        refine ⟨by rw [so0, e149, if_neg zm]; exact y1, by rw [e149, if_neg zm]; exact y2, fun y => ?_⟩
        rw [e149, if_neg zm] at y
        obtain ⟨y4, y5⟩ := y3 y
        refine ⟨?_, y5.cg ⟨⟨by rw [so0], by rw [so0], by rw [so0]⟩, fun _ _ _ i _ => by rw [so 2 (by omega)], fun i _ => by rw [so 3 (by omega)], fun i _ => by rw [so 4 (by omega)]⟩ ((b5 (1 + m') (by omega)).rw rowO rowN)⟩
        obtain ⟨h1, h2, h3, h4, h5⟩ := y4
        refine ⟨?_, ?_, ?_, ?_, fun i hi => ?_⟩
        · rw [so0, e147 _ (by omega)]; exact h1
        · rw [so0, e147 _ (by omega), e103]; exact h2
        · rw [so0, e147 _ (by omega)]; exact h3
        · rw [so0, e147 _ (by omega)]; exact h4
        · rw [so 1 (by omega), e147 _ (by omega)]; exact h5 i hi
  · -- taken back
    by_cases y0 : s.1 (mS k) 11 = 0
    · refine ⟨0, s, _, by rw [s1, if_neg w0, if_pos y0], ?_, R⟩
      unfold f_X12_mark
      rw [ltb_t (a := sI t 101 0 0), wv, if_neg one_ne, if_neg w0, ik, gd_t, kk, ← q1, if_pos y0]
    have y1 : (sI t 101 0 0).1 149 k = 1 := q2.resolve_left (by rw [← q1]; exact y0)
    obtain ⟨HM, DM⟩ := q3 y1
    have same : sI (sI t 101 0 0) 149 k 1 = sI t 101 0 0 := sI_same y1
    obtain ⟨⟨m', u1, u2, -⟩, -, -⟩ := id DM
    obtain ⟨s2, a1, a2, a3, a4, a5⟩ := r_copyAll (s := s) (a := mS k) (a' := 64) ok1 (by decide) ne64 u1 u2
    obtain ⟨t2, t3, b1, b2, b3, b4, b5⟩ := r_rows (r := 1 + k) (r' := 0) (by omega) (by omega) (by omega) (sI t 101 0 0)
    obtain ⟨t4, c1, c2, c3, c4⟩ := r_copies (o := 147) (b := 9 * k) (o' := 145) (b' := 0) (show 9 * k + 9 ≤ 36 by omega) (by decide) (by decide) (by decide) (by decide) t3
    rw [I_e0] at b1 b2 c1
    have f0 : Fr [(64, 0), (65, 0), (66, 0), (67, 0), (68, 0), (1, 11)] s (sI s2 1 10 0) := (a2.mono (by decide)).trans (fr_sI (by decide))
    have g1 : Fr (LROW ++ [(145, 0), (101, 61)]) (sI t 101 0 0) (sI t4 101 60 0) := (b3.mono (by decide)).trans ((c2.mono (by decide)).trans (fr_sI (by decide)))
    have rowO : ∀ o, 135 ≤ o → o ≤ 144 → (sI t 101 0 0).1 o = (sI t 101 0 0).1 o := fun o _ _ => rfl
    have rowN : ∀ o, 135 ≤ o → o ≤ 144 → (sI t4 101 60 0).1 o = t3.1 o := fun o h1 h2 => by rw [sI_n _ _ _ (by omega)]; exact c2.o (by simp [wo]; omega)
    have e103 : (sI t4 101 60 0).1 103 = (sI t 101 0 0).1 103 := g1.o (by decide)
    have e145 : ∀ q, q < 9 → (sI t4 101 60 0).1 145 q = (sI t 101 0 0).1 147 (9 * k + q) := fun q hq => by
      have := c3 q hq
      rw [Nat.zero_add, b3.o (by decide)] at this
      rw [sI_n _ _ _ (by decide)]; exact this
    have sn : ∀ o, o ≠ 1 → (sI s2 1 10 0).1 o = s2.1 o := fun o ho => sI_n _ _ _ ho
    refine ⟨1, _, _, by rw [s1, if_neg w0, if_neg y0, a1, bnd_t, ltb_t], ?_, R.asm (f0.mono (by decide)) (g1.mono (by decide)) ?_ (DM.cg (a' := 64) (r' := 0) ?_ (b4.rw rowO rowN)) (R.2.2.2.2.2.2.2.2.1.row f0 (by decide) (g1.o (by decide)) (g1.o (by decide)) e103 (fun m hm => (b5 (1 + m) (by omega)).rw rowO rowN)) ⟨0, by omega, by rw [sI_k, I_e0], by rw [sI_k, I_e0], fun k hk => by omega⟩⟩
    · unfold f_X12_mark
      rw [ltb_t (a := sI t 101 0 0), wv, if_neg one_ne, if_neg w0, ik, gd_t, kk, y1, if_neg one_ne]
      unfold f_X12_mark_j29 f_X12_mark_j47 f_X12_mark_j59
      rw [ik, gd_t, kk, vn, ltb_t, if_neg w0, if_neg w0, same, one1, b1, bnd_t, b2, bnd_t, if_neg w0, mul9, c1, bnd_t, ltb_t]
    · obtain ⟨h1, h2, h3, h4, h5⟩ := HM
      refine ⟨by decide, ?_, ?_, ?_, ?_, fun i hi => ?_⟩
      · rw [sn 64 (by decide), a4 0 (by omega), e145 0 (by omega)]; exact h1
      · rw [sn 64 (by decide), a4 1 (by omega), e145 1 (by omega), e103]; exact h2
      · rw [sn 64 (by decide), a4 2 (by omega), e145 2 (by omega)]; exact h3
      · rw [sn 64 (by decide), a4 3 (by omega), e145 3 (by omega)]; exact h4
      · rw [show Rf 64 4 = 64 + 1 from by decide, sn _ (by decide), a5 i (by omega), e145 (4 + i) (by omega)]; exact h5 i hi
    · unfold CPs
      rw [sn 64 (by decide), sn (64 + 2) (by decide), sn (64 + 3) (by decide), sn (64 + 4) (by decide)]
      exact a3
end MARK
