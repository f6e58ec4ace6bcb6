/-! out and undo -/
section OUT
variable {p d c h n a : Nat} {s t : HS}
theorem st_out (R0 : Rel p d c h n s t) (v w : Int32) : ∃ x s' t', f_X11_out v w s = some (x, s') ∧ f_X12_out v w t = some (x, t') ∧ Rel p d c h n s' t' := by
  have R := R0.t0
  have hh := R.2.1.n6
  have i0 : (0 : Int32).toInt = 0 := by decide
  have n0 : ¬ (3 : Int32) = 0 := by decide
  have n1 : ¬ (3 : Int32) = 1 := by decide
  have n2 : ¬ (3 : Int32) = 2 := by decide
  by_cases y0 : v < 0 ∨ I n ≤ v
  · have v0 : f_X7_valueOf 64 p 3 v s = some (-1) := by
      unfold f_X7_valueOf
      rw [if_neg n0, if_neg n1, if_neg n2, if_pos (Eq.refl _)]
      by_cases y : v < 0
      · rw [if_pos y]
      · rw [if_neg y, R.2.1.nc, if_pos (y0.resolve_left y)]
    have ng : f_X12_isBuyer v (sI t 101 0 0) = 0 := by
      unfold f_X12_isBuyer
      by_cases y : v < 0
      · rw [if_pos y]
      · rw [if_neg y, R.2.1.nm, if_pos (y0.resolve_left y)]
    have cb : ∀ z, f_X11_changeByHand 3 v z s = some (0, s) := fun z => by
      unfold f_X11_changeByHand f_X7_change
      rw [R.1.1, R.2.1.1, gd_t, v0, bnd_t, gd_t, bnd_t, if_pos (Eq.refl _), bnd2_t, if_pos (Eq.refl _)]
    refine ⟨0, s, _, ?_, ?_, R⟩
    · unfold f_X11_out
      simp only [cb, bnd2_t, isb01.1, gd_t, ite_self]
    · unfold f_X12_out
      rw [ltb_t (a := sI t 101 0 0), ng, if_pos (Eq.refl _)]
  · have y1 : ¬ v < 0 := fun q => y0 (Or.inl q)
    have y2 : ¬ I n ≤ v := fun q => y0 (Or.inr q)
    have V : ∃ k, k < n ∧ v = I k := by
      rw [Int32.lt_iff_toInt_lt, i0] at y1
      rw [Int32.le_iff_toInt_le, I_toInt (by omega)] at y2
      exact ⟨v.toInt.toNat, by omega, I_of (by omega)⟩
    obtain ⟨k, k1, rfl⟩ := V
    have ng : f_X12_isBuyer (I k) (sI t 101 0 0) = 1 := by
      unfold f_X12_isBuyer
      rw [if_neg y1, R.2.1.nm, if_neg y2]
    have main : ∀ w' : Int32, (w' = 0 ∨ w' = 1) → (w' = 0 ↔ w = 0) → (f_X11_out (I k) w s = bnd2 (f_X11_changeByHand 3 (I k) w' s) fun y2 s3 => gd (isb y2) (some (y2, s3))) → ∃ x s' t', f_X11_out (I k) w s = some (x, s') ∧ f_X12_out (I k) w t = some (x, t') ∧ Rel p d c h n s' t' := by
      intro w' hw hww hs
      obtain ⟨W, W2, W1, e1, e2, e3⟩ := r_tog R.2.1 R.2.2.1 k1 w'
      have p64 : 2 ^ n ≤ 64 := (Nat.pow_le_pow_right (by omega) hh.2.2 : 2 ^ n ≤ 2 ^ 6)
      obtain ⟨q1, q2⟩ := Z1 W (by omega) k (by omega)
      have q3 := Z2 k (by omega) W (by omega)
      have th : f_X12_outThen (I k) w (sI t 101 0 0) = if (if W.testBit k then (1 : Int32) else 0) = w' then I W else I W ^^^ ((1 : Int32) <<< (I k &&& 31)) := by
        unfold f_X12_outThen
        rw [W1, q1, q2]
        rcases hw with rfl | rfl
        · rw [if_pos (hww.mp rfl)]
          cases W.testBit k <;> simp
        · rw [if_neg (fun z => absurd (hww.mpr z) (by decide))]
          cases W.testBit k <;> simp
      by_cases z : (if W.testBit k then (1 : Int32) else 0) = w'
      · refine ⟨0, s, _, ?_, ?_, R⟩
        · rw [hs]
          unfold f_X11_changeByHand
          rw [R.1.1, R.2.1.1, gd_t, e1, bnd_t, gd_t, e2, if_pos z, bnd2_t, if_pos (Eq.refl _), bnd2_t, isb01.1, gd_t]
        · unfold f_X12_out
          rw [ltb_t (a := sI t 101 0 0), ng, if_neg one_ne, th, if_pos z]
          unfold f_X12_changes
          rw [show inb 0 9 = true from by decide, gd_t, show (0 : Int32).toNatClampNeg = 0 from by decide, if_pos W1, bnd2_t, if_pos (Eq.refl _)]
      · have ch : f_X7_change 64 p 3 (I k) w' s = some (1, sI s 64 0 (I W ^^^ ((1 : Int32) <<< (I k &&& 31)))) := by rw [e2, if_neg z, if_pos hw]
        have N : UNi h n ((sI t 101 0 0).1 103 3).toInt 3 (I k) (if W.testBit k then (1 : Int32) else 0) (fun j => (sI t 101 0 0).1 145 j) (fun j => if j = 0 then I W ^^^ ((1 : Int32) <<< (I k &&& 31)) else (sI t 101 0 0).1 145 j) := by
          refine Or.inr (Or.inr (Or.inr (Or.inr ⟨rfl, k, k1, rfl, ?_, ?_, ?_, fun q' _ h2 => ?_⟩)))
          · show (sI t 101 0 0).1 145 0 = (if (0 : Nat) = 0 then _ else _) ^^^ _
            rw [if_pos rfl, W1]
            have x1 := D5 W (by omega) k (by omega)
            have x2 := D5 (W ^^^ 2 ^ k) (by have := xor_lt2 W2 k1; omega) k (by omega)
            rw [x1.1, x2.1, Nat.xor_assoc, Nat.xor_self, Nat.xor_zero]
          · show _ = (((sI t 101 0 0).1 145 0) >>> (I k &&& 31)) &&& 1
            rw [W1, bitb W (by omega) k (by omega)]
          · show 0 ≤ ((sI t 101 0 0).1 145 0).toInt ∧ ((sI t 101 0 0).1 145 0).toInt ≤ _
            have A := R.2.2.1.2.1
            exact ⟨A.2.1, A.2.2⟩
          · show _ = if q' = 0 then _ else _
            rw [if_neg h2]
        obtain ⟨s', t', g1, g2, g3⟩ := r_hand R (y0 := if W.testBit k then (1 : Int32) else 0) (Or.inl ⟨rfl, by omega⟩) e3 (by omega) N e1 ch (by rw [W1]; exact q3)
        refine ⟨1, s', t', ?_, ?_, g3⟩
        · rw [hs, g1, bnd2_t, isb01.2, gd_t]
        · unfold f_X12_out
          rw [I_e0] at g2
          rw [ltb_t (a := sI t 101 0 0), ng, if_neg one_ne, th, if_neg z, g2, bnd2_t, if_neg one_ne]
    by_cases w0 : w = 0
    · exact main 0 (Or.inl rfl) ⟨fun _ => w0, fun _ => rfl⟩ (by unfold f_X11_out; rw [if_pos w0])
    · exact main 1 (Or.inr rfl) ⟨fun q => absurd q (by decide), fun q => absurd q w0⟩ (by unfold f_X11_out; rw [if_neg w0])
theorem st_undo (R0 : Rel p d c h n s t) : ∃ x s' t', f_X11_undo s = some (x, s') ∧ f_X12_undo t = some (x, t') ∧ Rel p d c h n s' t' := by
  have R := R0.t0
  have hh := R.2.1.n6
  obtain ⟨m, u1, u2, u3, u4⟩ := R.2.2.2.2.2.2.2.2.2
  by_cases z : m = 0
  · subst z
    refine ⟨0, s, _, ?_, ?_, R⟩
    · unfold f_X11_undo
      rw [u2, if_neg (by decide)]
    · unfold f_X12_undo
      rw [ltb_t (a := sI t 101 0 0), u3, if_pos I_e0]
  obtain ⟨m, rfl⟩ : ∃ m', m = m' + 1 := ⟨m - 1, by omega⟩
  have pm : ∀ k, I (k + 1) - (1 : Int32) = I k := fun k => by rw [show (1 : Int32) = I 1 from litI 1, I_sub (by omega), Nat.add_sub_cancel]
  have pos : (0 : Int32) < I (m + 1) := by rw [I0, I_lt (by omega) (by omega)]; omega
  have nz : ¬ I (m + 1) = 0 := by rw [I0, I_inj (by omega) (by omega)]; omega
  have ob : ∀ o, o ≠ 101 → (sI (sI t 101 0 0) 101 60 (I m)).1 o = (sI t 101 0 0).1 o := fun o ho => sI_n _ _ _ ho
  obtain ⟨t', c1, c2, c3, c4⟩ := r_copies (o := 148) (b := 9 * m) (o' := 145) (b' := 0) (show 9 * m + 9 ≤ 144 by omega) (by decide) (by decide) (by decide) (by decide) (sI (sI t 101 0 0) 101 60 (I m))
  rw [I_e0] at c1
  have c3 : ∀ q, q < 9 → t'.1 145 q = (sI t 101 0 0).1 148 (9 * m + q) := fun q hq => by
    have := c3 q hq
    rw [Nat.zero_add, ob _ (by decide)] at this
    exact this
  have o103 : t'.1 103 = (sI t 101 0 0).1 103 := by rw [c2.o (by decide), ob _ (by decide)]
  have und : f_X12_undo t = some (1, t') := by
    unfold f_X12_undo
    rw [ltb_t (a := sI t 101 0 0), u3, if_neg nz, pm, ltb_t, sI_k, mul9, c1, bnd_t]
  have gT : Fr [(101, 1), (101, 61), (145, 0), (148, 0)] (sI t 101 0 0) t' := (fr_sI (by decide)).trans (c2.mono (by decide))
  have i1 : inb (I (3 * m)) 48 = true := inb_t (by omega) (by omega)
  have i2 : inb (I (3 * m + 1)) 48 = true := inb_t (by omega) (by omega)
  have i3 : inb (I (3 * m + 2)) 48 = true := inb_t (by omega) (by omega)
  have n1 : (I (3 * m)).toNatClampNeg = 3 * m := I_nat (by omega)
  have n2 : (I (3 * m + 1)).toNatClampNeg = 3 * m + 1 := I_nat (by omega)
  have n3 : (I (3 * m + 2)).toNatClampNeg = 3 * m + 2 := I_nat (by omega)
  have fu : Fr [(1, 11), (34, 0), (64, 1), (64, 2), (64, 3), (64, 4), (65, 0)] s (sI s 1 10 (I m)) := fr_sI (by decide)
  have cls : ∀ b s', f_X7_change 64 p (s.1 34 (3 * m)) (s.1 34 (3 * m + 1)) (s.1 34 (3 * m + 2)) (sI s 1 10 (I m)) = some (b, s') → f_X11_undo s = some (1, s') := fun b s' e => by
    unfold f_X11_undo
    have o34 : (sI s 1 10 (I m)).1 34 = s.1 34 := sI_n _ _ _ (by decide)
    rw [u2, if_pos pos, pm, ltb_t, sI_k, mul3, ltb_t]
    rw [show (sI s 1 10 (I m)).2.2.1 = p from R.1.1, R.2.1.1, gd_t, i1, gd_t, I_p1, I_p2, i2, gd_t, i3, gd_t, n1, n2, n3, o34, e, bnd2_t]
  -- the rest of what is kept
  have un : ∀ s' : HS, s'.1 34 = s.1 34 → s'.1 1 10 = I m → UN h n s' t' := fun s' h1 h2 => by
    refine ⟨m, by omega, h2, by rw [c2.o (by decide), sI_k], fun k hk => ?_⟩
    rw [h1, o103]
    refine (u4 k (by omega)).cg (Eq.refl _) (Eq.refl _) (Eq.refl _) hh.2.1 (fun q hq => ?_) (fun q hq => ?_)
    · show t'.1 148 (9 * k + q) = (sI t 101 0 0).1 148 (9 * k + q)
      rw [c2.o (by decide), ob _ (by decide)]
    · show (if k + 1 < m then t'.1 148 (9 * (k + 1) + q) else t'.1 145 q) = if k + 1 < m + 1 then (sI t 101 0 0).1 148 (9 * (k + 1) + q) else (sI t 101 0 0).1 145 q
      rw [if_pos (show k + 1 < m + 1 by omega), c2.o (o := 148) (by decide), ob _ (by decide), c3 q hq]
      by_cases z : k + 1 < m
      · rw [if_pos z]
      · rw [if_neg z, show k + 1 = m from by omega]
  have P1 : PL p 0 c h n (sI s 1 10 (I m)) (sI t 101 0 0) := R.2.1.fr (M := []) fu Fr.refl (by rcases okX4_c R.2.1.1 with rfl | rfl <;> decide) (by decide)
  have A1 : HR 64 h n (sI s 1 10 (I m)) (sI t 101 0 0) := R.2.2.1.eq (sI_n _ _ _ (by decide)) (sI_n _ _ _ (by decide)) rfl rfl
  have uM := u4 m (by omega)
  have last : ∀ q, (if m + 1 < m + 1 then (sI t 101 0 0).1 148 (9 * (m + 1) + q) else (sI t 101 0 0).1 145 q) = (sI t 101 0 0).1 145 q := fun q => if_neg (by omega)
  simp only [last] at uM
  have val : ∀ {w x y : Int32} {o k q : Nat} {lo hi : Int}, s.1 34 (3 * m) = w → s.1 34 (3 * m + 1) = x → s.1 34 (3 * m + 2) = y → CL 64 h ((sI t 101 0 0).1 103 3).toInt w x o k q lo hi → EqB y ((sI t 101 0 0).1 148 (9 * m + q)) lo hi → (∀ q', q' < 9 → q' ≠ q → (sI t 101 0 0).1 148 (9 * m + q') = (sI t 101 0 0).1 145 q') → ∃ x s' t', f_X11_undo s = some (x, s') ∧ f_X12_undo t = some (x, t') ∧ Rel p d c h n s' t' := by
    intro w x y o k q lo hi e1 e2 e3 C E df
    obtain ⟨r1, r2, r3, r4, r5, r6⟩ := r_chgv P1 A1 C y
    obtain ⟨ho, q9⟩ := cl_o C hh.2.1
    obtain ⟨E1, E2, E3⟩ := E
    rw [e1, e2, e3] at cls
    by_cases z : (sI t 101 0 0).1 145 q = y
    · refine ⟨1, _, t', cls 0 _ (by rw [r5, if_pos z]), und, R.hand fu gT (A1.c9 hh.2.1 (fun q' hq => ?_) o103) (un _ (sI_n _ _ _ (by decide)) (sI_k _ _ _ _))⟩
      by_cases zq : q' = q
      · subst zq; rw [c3 q' hq, ← E1, z]
      · rw [c3 q' hq, df q' hq zq]
    · have b1 : lo ≤ y.toInt := by rw [E1]; exact E2
      have b2 : y.toInt ≤ hi := by rw [E1]; exact E3
      have f2 : Fr [(1, 11), (34, 0), (64, 1), (64, 2), (64, 3), (64, 4), (65, 0)] (sI s 1 10 (I m)) (sI (sI s 1 10 (I m)) o k y) := by
        rcases ho with ⟨rfl, hk⟩ | rfl
        · have : k = 0 ∨ k = 1 ∨ k = 2 ∨ k = 3 := by omega
          rcases this with rfl | rfl | rfl | rfl <;> exact fr_sI (by decide)
        · exact fr_sI (by simp [wm])
      have oo : o ≠ 34 ∧ o ≠ 1 := by rcases ho with ⟨rfl, -⟩ | rfl <;> decide
      refine ⟨1, _, t', cls 1 _ (by rw [r5, if_neg z, if_neg (by omega)]), und, R.hand (fu.trans f2) gT ((r6 b1 b2).c9 hh.2.1 (fun q' hq => ?_) (by rw [o103]; exact (sI_n _ _ _ (by decide)).symm)) (un _ (by rw [sI_n _ _ _ (Ne.symm oo.1), sI_n _ _ _ (by decide)]) (by rw [sI_n _ _ _ (Ne.symm oo.2), sI_k]))⟩
      rw [sI_s]
      by_cases zq : q' = q
      · subst zq; rw [if_pos (Eq.refl _), c3 q' hq, ← E1]
      · rw [if_neg zq, c3 q' hq, df q' hq zq]
  rcases uM with ⟨v1, v2, v3⟩ | ⟨v1, v2, v3⟩ | ⟨v1, v2, v3⟩ | ⟨v1, k, k1, k2, v2, v3⟩ | ⟨v1, k, k1, k2, v2, v3, v4, v5⟩
  · exact val v1 rfl rfl (Or.inl ⟨rfl, rfl, rfl, rfl, rfl, rfl⟩) v2 v3
  · exact val v1 rfl rfl (Or.inr (Or.inl ⟨rfl, rfl, rfl, rfl, rfl, rfl⟩)) v2 v3
  · exact val v1 rfl rfl (Or.inr (Or.inr (Or.inl ⟨rfl, rfl, rfl, rfl, rfl, rfl⟩))) v2 v3
  · exact val v1 k2 rfl (Or.inr (Or.inr (Or.inr ⟨rfl, k, k1, rfl, rfl, rfl, rfl, rfl, rfl⟩))) v2 v3
  · obtain ⟨W, W2, W1, e1, e2, e3⟩ := r_tog P1 A1 k1 (s.1 34 (3 * m + 2))
    have p64 : 2 ^ n ≤ 64 := (Nat.pow_le_pow_right (by omega) hh.2.2 : 2 ^ n ≤ 2 ^ 6)
    have x1 := D5 W (by omega) k (by omega)
    have W3 := xor_lt2 W2 k1
    have v2' : (sI t 101 0 0).1 148 (9 * m) = I W ^^^ ((1 : Int32) <<< (I k &&& 31)) := by
      have v2 : (sI t 101 0 0).1 148 (9 * m) = (sI t 101 0 0).1 145 0 ^^^ _ := v2
      rw [v2, W1]
    have v3' : s.1 34 (3 * m + 2) = if W.testBit k then 0 else 1 := by
      have v3 : s.1 34 (3 * m + 2) = (((sI t 101 0 0).1 148 (9 * m)) >>> (I k &&& 31)) &&& 1 := v3
      rw [v3, v2', x1.1, bitb _ (by omega) k (by omega), Nat.testBit_xor, Nat.testBit_two_pow]
      cases W.testBit k <;> simp
    have ne : ¬ (if W.testBit k then (1 : Int32) else 0) = s.1 34 (3 * m + 2) := by rw [v3']; cases W.testBit k <;> decide
    have y01 : s.1 34 (3 * m + 2) = 0 ∨ s.1 34 (3 * m + 2) = 1 := by rw [v3']; cases W.testBit k <;> simp
    rw [v1, k2] at cls
    refine ⟨1, _, t', cls 1 _ (by rw [e2, if_neg ne, if_pos y01]), und, R.hand (fu.trans (fr_sI (by decide))) gT (e3.c9 hh.2.1 (fun q' hq => ?_) (by rw [o103]; exact (sI_n _ _ _ (by decide)).symm)) (un _ (by rw [sI_n _ _ _ (by decide), sI_n _ _ _ (by decide)]) (by rw [sI_n _ _ _ (by decide), sI_k]))⟩
    rw [sI_s]
    by_cases zq : q' = 0
    · subst zq; rw [if_pos (Eq.refl _), c3 0 hq, Nat.add_zero, v2']
    · rw [if_neg zq, c3 q' hq]; exact v5 q' hq zq
end OUT
