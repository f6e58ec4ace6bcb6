/-! ring, best, table -/
section RING
variable {p d c h n : Nat} {s t : HS}
theorem wm1 {o k o' : Nat} (hk : wm [(o', 0)] o k = true) : o = o' := by
  simp only [wm, List.any_cons, List.any_nil, Bool.or_false, Bool.and_eq_true, beq_iff_eq] at hk
  exact hk.1.symm
theorem bc_pos {k : Nat} (hk : k < 64) : 0 < bc (I k) ↔ k ≠ 0 := by
  have := bc_0 k hk
  rw [← Int32.not_le, this]
theorem st_ring (R : Rel p d c h n s t) : ∃ x s' t', f_X11_ring s = some (x, s') ∧ f_X12_ring t = some (x, t') ∧ Rel p d c h n s' t' := by
  obtain ⟨s2, e1, T0, f1⟩ := r_copy R
  obtain ⟨st, -, st2, st3, st4⟩ := (show EqB (s.1 p 0) (t.1 103 3) 60 900 by have := R.2.1.sc.1; simpa using this).of (by omega)
  have key : ∀ e k, k + e = st + 1 → 1 ≤ k → ∀ (a b : Int32) (s t1 : HS), TRL p c h n s t1 → t1.1 103 3 = I st → (∀ q, q ≠ 1 → t1.1 145 q = t.1 145 q) → ∃ x s' t', (∀ f, e < f → f_X11_ring_l17 f a b (I k) s = some (x, s')) ∧ (∀ x3 K f, e < f → f_X12_ring_l19 x3 K f a b (I k) t1 = K x t') ∧ (∀ q, q ≠ 1 → t'.1 145 q = t.1 145 q) := by
    intro e
    induction e with
    | zero =>
      intro k hk k1 a b s t1 T hst ht
      have hp : s.1 p 0 = I st := by have := T.2.1.sc.1.1; rw [this]; simpa using hst
      have hlt : I st < I k := by rw [I_lt (by omega) (by omega)]; omega
      refine ⟨a, s, t1, fun f hf => ?_, fun x3 K f hf => ?_, ht⟩
      · obtain ⟨f', rfl⟩ : ∃ f', f = f' + 1 := ⟨f - 1, by omega⟩
        simp only [f_X11_ring_l17, f_X11_ring_l17b, T.1, T.2.1.1, gd_t, hp, if_pos hlt]
      · obtain ⟨f', rfl⟩ : ∃ f', f = f' + 1 := ⟨f - 1, by omega⟩
        simp only [f_X12_ring_l19, f_X12_ring_l19b, hst, if_pos hlt]
    | succ e ih =>
      intro k hk k1 a b s t1 T hst ht
      have hp : s.1 p 0 = I st := by have := T.2.1.sc.1.1; rw [this]; simpa using hst
      have hlt : ¬ I st < I k := by rw [I_lt (by omega) (by omega)]; omega
      obtain ⟨s1, t2, d1, d2, d3, d4, d5, d6, d7, d8⟩ := r_pT (T.bell (v := I k) (by rw [I_toInt (by omega), hst, I_toInt (by omega)]; omega))
      obtain ⟨y, y1, y2⟩ := r_drunkInAll d5.2.1 d3.2.1 d4
      obtain ⟨kb, b1, b2, b3⟩ := r_behind d5.2.1 d4
      have hst2 : t2.1 103 3 = I st := by rw [d8.o (by decide +kernel), sI_n _ _ _ (by decide)]; exact hst
      have ht2 : ∀ q, q ≠ 1 → t2.1 145 q = t.1 145 q := fun q hq => by rw [d6, sI_s, if_neg hq]; exact ht q hq
      by_cases w : kb = 0
      · have w1 : s1.1 73 15 = 0 := by rw [b2, w, I_e0]
        have w2 : ¬ 0 < bc (I kb) := fun q => (bc_pos b1).mp q w
        by_cases z : y ≤ b
        · have z' : ¬ b < y := Int32.not_lt.mpr z
          obtain ⟨x, s', t', g1, g2, g3⟩ := ih (k + 1) (by omega) (by omega) a b s1 t2 d5 hst2 ht2
          refine ⟨x, s', t', fun f hf => ?_, fun x3 K f hf => ?_, g3⟩
          · obtain ⟨f', rfl⟩ : ∃ f', f = f' + 1 := ⟨f - 1, by omega⟩
            simp only [f_X11_ring_l17, f_X11_ring_l17b, T.1, T.2.1.1, gd_t, hp, if_neg hlt, ltb_t, d1, bnd_t, if_pos w1, y1, if_pos z, I_succ, g1 f' (by omega)]
          · obtain ⟨f', rfl⟩ : ∃ f', f = f' + 1 := ⟨f - 1, by omega⟩
            simp only [f_X12_ring_l19, f_X12_ring_l19b, hst, if_neg hlt, ltb_t, d2, bnd_t, b3, if_neg w2, y2, if_neg z', I_succ, g2 x3 K f' (by omega)]
        · have z' : b < y := Int32.not_le.mp z
          obtain ⟨x, s', t', g1, g2, g3⟩ := ih (k + 1) (by omega) (by omega) (I k) y s1 t2 d5 hst2 ht2
          refine ⟨x, s', t', fun f hf => ?_, fun x3 K f hf => ?_, g3⟩
          · obtain ⟨f', rfl⟩ : ∃ f', f = f' + 1 := ⟨f - 1, by omega⟩
            simp only [f_X11_ring_l17, f_X11_ring_l17b, T.1, T.2.1.1, gd_t, hp, if_neg hlt, ltb_t, d1, bnd_t, if_pos w1, y1, if_neg z, I_succ, g1 f' (by omega)]
          · obtain ⟨f', rfl⟩ : ∃ f', f = f' + 1 := ⟨f - 1, by omega⟩
            simp only [f_X12_ring_l19, f_X12_ring_l19b, hst, if_neg hlt, ltb_t, d2, bnd_t, b3, if_neg w2, y2, if_pos z', I_succ, g2 x3 K f' (by omega)]
      · have w1 : ¬ s1.1 73 15 = 0 := by rw [b2, I0, I_inj (by omega) (by omega)]; exact w
        have w2 : 0 < bc (I kb) := (bc_pos b1).mpr w
        obtain ⟨x, s', t', g1, g2, g3⟩ := ih (k + 1) (by omega) (by omega) a b s1 t2 d5 hst2 ht2
        refine ⟨x, s', t', fun f hf => ?_, fun x3 K f hf => ?_, g3⟩
        · obtain ⟨f', rfl⟩ : ∃ f', f = f' + 1 := ⟨f - 1, by omega⟩
          simp only [f_X11_ring_l17, f_X11_ring_l17b, T.1, T.2.1.1, gd_t, hp, if_neg hlt, ltb_t, d1, bnd_t, if_neg w1, I_succ, g1 f' (by omega)]
        · obtain ⟨f', rfl⟩ : ∃ f', f = f' + 1 := ⟨f - 1, by omega⟩
          simp only [f_X12_ring_l19, f_X12_ring_l19b, hst, if_neg hlt, ltb_t, d2, bnd_t, b3, if_pos w2, I_succ, g2 x3 K f' (by omega)]
  obtain ⟨x, s', t', g1, g2, g3⟩ := key st 1 (by omega) (by omega) (-1) (-1) s2 _ T0 (by rw [sI_n _ _ _ (by decide)]; exact st2) (fun q _ => by rw [sI_n _ _ _ (by decide)])
  have g1 := g1 FU (FU_lt (by omega))
  have g2 := g2 ((sI t 101 0 0).1 145 1) (fun v13 s14 => ltb (sI s14 145 (1) ((sI t 101 0 0).1 145 1)) fun s15 => some (v13, s15)) FU (FU_lt (by omega))
  rw [I_e1] at g1 g2
  have c1 : f_X11_ring s = some (x, s') := by
    unfold f_X11_ring
    rw [e1, bnd_t, g1]
  have c2 : f_X12_ring t = some (x, sI t' 145 1 ((sI t 101 0 0).1 145 1)) := by
    unfold f_X12_ring
    rw [ltb_t, ltb_t, g2, ltb_t]
  refine ⟨x, s', _, c1, c2, R.back (K := [(145, 0)]) (M' := L_X12_ring.filter (fun q => q.1 != 145)) (w_X11_ring s _ c1) ((w_X12_ring t _ c2).mono (by decide +kernel)) (by rcases okX4_c R.2.1.1 with rfl | rfl <;> decide +kernel) (by decide +kernel) (fun o k hk => ?_) (by decide)⟩
  have := wm1 hk
  subst this
  rw [sI_s]
  by_cases z : k = 1
  · rw [if_pos z, z, sI_n _ _ _ (by decide)]
  · rw [if_neg z]; exact g3 k z
/-- a THING that is poured -/
theorem po_e (R : Rel p d c h n s t) (v : Int32) : (∃ i, i < h ∧ v = I i ∧ f_X11_isPoured v s = some 1 ∧ f_X12_isThing v t = 1 ∧ ¬ t.1 108 i = 2) ∨ (f_X11_isPoured v s = some 0 ∧ (f_X12_isThing v t = 0 ∨ ∃ i, i < h ∧ v = I i ∧ f_X12_isThing v t = 1 ∧ t.1 108 i = 2)) := by
  have hn := R.2.1.n6
  rcases th_e R v with ⟨i, hi, rfl, a1, a2⟩ | ⟨a1, a2⟩
  · have i5 : inb (I i) 5 = true := inb_t (by omega) (by omega)
    have ii : (I i).toNatClampNeg = i := I_nat (by omega)
    have e1 := (R.2.1.sort hi).1
    by_cases z : t.1 108 i = 2
    · refine Or.inr ⟨?_, Or.inr ⟨i, hi, rfl, a2, z⟩⟩
      unfold f_X11_isPoured
      rw [a1, bnd_t, if_neg one_ne, R.1.1, R.2.1.1, gd_t, i5, gd_t, ii, tS_f, e1, if_pos z]
    · refine Or.inl ⟨i, hi, rfl, ?_, a2, z⟩
      unfold f_X11_isPoured
      rw [a1, bnd_t, if_neg one_ne, R.1.1, R.2.1.1, gd_t, i5, gd_t, ii, tS_f, e1, if_neg z]
  · refine Or.inr ⟨?_, Or.inl a2⟩
    unfold f_X11_isPoured
    rw [a1, bnd_t, if_pos (Eq.refl _)]
theorem st_best (R : Rel p d c h n s t) (v w : Int32) : ∃ x s' t', f_X11_best v w s = some (x, s') ∧ f_X12_best v w t = some (x, t') ∧ Rel p d c h n s' t' := by
  have hn := R.2.1.n6
  rcases po_e R.t0 v with ⟨i, hi, rfl, a1, a2, a3⟩ | ⟨a1, a2⟩
  case inr =>
    have c1 : f_X11_best v w s = some (-1, s) := by unfold f_X11_best; rw [a1, bnd_t, if_pos (Eq.refl _)]
    rcases a2 with a2 | ⟨i, hi, rfl, a2, a3⟩
    · refine ⟨-1, s, _, c1, ?_, R.t0⟩
      unfold f_X12_best
      rw [ltb_t (a := sI t 101 0 0), a2, if_pos (Eq.refl _)]
    · refine ⟨-1, s, _, c1, ?_, R.t0⟩
      unfold f_X12_best
      rw [ltb_t (a := sI t 101 0 0), a2, if_neg one_ne, inb_t (by omega) (by omega), gd_t, I_nat (by omega), if_pos a3]
  have i5 : inb (I i) 5 = true := inb_t (by omega) (by omega)
  have i10 : inb (I i) 10 = true := inb_t (by omega) (by omega)
  have ii : (I i).toNatClampNeg = i := I_nat (by omega)
  have w9 : (4 : Int32) + I i = I (4 + i) := I_add 4 i
  have w9' : inb (I (4 + i)) 9 = true := inb_t (by omega) (by omega)
  have ww9 : (I (4 + i)).toNatClampNeg = 4 + i := I_nat (by omega)
  obtain ⟨s2, e1, T0, f1⟩ := r_copy R
  have key : ∀ e k, k + e = 100 → ∀ (a b : Int32) (s t1 : HS), TRL p c h n s t1 → (∀ q, q ≠ 4 + i → t1.1 145 q = t.1 145 q) → ∃ x s' t', (∀ f, e < f → f_X11_best_l29 (I i) w f a b (I k) s = some (x, s')) ∧ (∀ x3 K f, e < f → f_X12_best_l43 (I i) w x3 K f a b (I k) t1 = K x t') ∧ (∀ q, q ≠ 4 + i → t'.1 145 q = t.1 145 q) := by
    intro e
    induction e with
    | zero =>
      intro k hk a b s t1 T ht
      have hk : k = 100 := by omega
      subst hk
      refine ⟨a, s, t1, fun f hf => ?_, fun x3 K f hf => ?_, ht⟩
      · obtain ⟨f', rfl⟩ : ∃ f', f = f' + 1 := ⟨f - 1, by omega⟩
        simp only [f_X11_best_l29, f_X11_best_l29b]
        exact if_pos (by decide)
      · obtain ⟨f', rfl⟩ : ∃ f', f = f' + 1 := ⟨f - 1, by omega⟩
        simp only [f_X12_best_l43, f_X12_best_l43b]
        exact if_pos (by decide)
    | succ e ih =>
      intro k hk a b s t1 T ht
      have h99 : ¬ (99 : Int32) < I k := by rw [show (99 : Int32) = I 99 from litI 99, I_lt (by omega) (by omega)]; omega
      have h100 : ¬ (100 : Int32) ≤ I k := by rw [show (100 : Int32) = I 100 from litI 100, I_le (by omega) (by omega)]; omega
      obtain ⟨s1, t2, d1, d2, d3, d4, d5, d6, -⟩ := r_pT (T.hot hi (v := I k) (by rw [I_toInt (by omega)]; omega))
      have ht2 : ∀ q, q ≠ 4 + i → t2.1 145 q = t.1 145 q := fun q hq => by rw [d6, sI_s, if_neg hq]; exact ht q hq
      -- what it is worth
      have worth : ∃ y : Int32, (∀ f, f_X11_best_l29 (I i) w (f + 1) a b (I k) s = f_X11_best_j80 (I i) w a b (I k) y (f_X11_best_l29 (I i) w f) s1) ∧ ∀ x3 K f, f_X12_best_l43 (I i) w x3 K (f + 1) a b (I k) t1 = f_X12_best_j84 (I i) w x3 a b (I k) y (f_X12_best_l43 (I i) w x3 K f) t2 := by
        by_cases z : w = 0
        · obtain ⟨y, y1, y2⟩ := r_drunkInAll d5.2.1 d3.2.1 d4
          exact ⟨y, fun f => by simp only [f_X11_best_l29, f_X11_best_l29b, if_neg h99, i5, gd_t, ii, ltb_t, d1, bnd_t, if_pos z, y1], fun x3 K f => by simp only [f_X12_best_l43, f_X12_best_l43b, if_neg h100, w9, w9', gd_t, ww9, ltb_t, d2, bnd_t, if_pos z, y2]⟩
        · obtain ⟨y, y1, y2⟩ := r_paid d5.2.1 d3.2.1 d4
          obtain ⟨y', y3, y4⟩ := r_halves d5.2.1 d3.2.1 d4
          exact ⟨y + y', fun f => by simp only [f_X11_best_l29, f_X11_best_l29b, if_neg h99, i5, gd_t, ii, ltb_t, d1, bnd_t, if_neg z, y1, y3], fun x3 K f => by simp only [f_X12_best_l43, f_X12_best_l43b, if_neg h100, w9, w9', gd_t, ww9, ltb_t, d2, bnd_t, if_neg z, y2, y4]⟩
      obtain ⟨y, y1, y2⟩ := worth
      by_cases z : y ≤ b
      · have z' : ¬ b < y := Int32.not_lt.mpr z
        obtain ⟨x, s', t', g1, g2, g3⟩ := ih (k + 1) (by omega) a b s1 t2 d5 ht2
        refine ⟨x, s', t', fun f hf => ?_, fun x3 K f hf => ?_, g3⟩
        · obtain ⟨f', rfl⟩ : ∃ f', f = f' + 1 := ⟨f - 1, by omega⟩
          rw [y1]
          unfold f_X11_best_j80
          rw [if_pos z, ltb_t, I_succ, g1 f' (by omega)]
        · obtain ⟨f', rfl⟩ : ∃ f', f = f' + 1 := ⟨f - 1, by omega⟩
          rw [y2]
          unfold f_X12_best_j84
          rw [if_neg z', ltb_t, I_succ, g2 x3 K f' (by omega)]
      · have z' : b < y := Int32.not_le.mp z
        obtain ⟨x, s', t', g1, g2, g3⟩ := ih (k + 1) (by omega) (I k) y s1 t2 d5 ht2
        refine ⟨x, s', t', fun f hf => ?_, fun x3 K f hf => ?_, g3⟩
        · obtain ⟨f', rfl⟩ : ∃ f', f = f' + 1 := ⟨f - 1, by omega⟩
          rw [y1]
          unfold f_X11_best_j80
          rw [if_neg z, ltb_t, I_succ, g1 f' (by omega)]
        · obtain ⟨f', rfl⟩ : ∃ f', f = f' + 1 := ⟨f - 1, by omega⟩
          rw [y2]
          unfold f_X12_best_j84
          rw [if_pos z', ltb_t, I_succ, g2 x3 K f' (by omega)]
  obtain ⟨x, s', t', g1, g2, g3⟩ := key 100 0 (by omega) 0 (-1) s2 _ T0 (fun q _ => by rw [sI_n _ _ _ (by decide)])
  have g1 := g1 FU (FU_lt (by omega))
  have g2 := g2 ((sI t 101 0 0).1 145 (4 + i)) (fun v19 s20 => gd true (ltb (sI s20 145 (4 + i) ((sI t 101 0 0).1 145 (4 + i))) fun s21 => some (v19, s21))) FU (FU_lt (by omega))
  rw [← I0] at g1 g2
  have c1 : f_X11_best (I i) w s = some (x, s') := by
    unfold f_X11_best
    rw [a1, bnd_t, if_neg one_ne, e1, bnd_t, g1]
  have c2 : f_X12_best (I i) w t = some (x, sI t' 145 (4 + i) ((sI t 101 0 0).1 145 (4 + i))) := by
    unfold f_X12_best
    rw [ltb_t (a := sI t 101 0 0), a2, if_neg one_ne, i10, gd_t, ii, if_neg a3, w9, w9', gd_t, ltb_t, ww9, g2, gd_t, ltb_t]
  refine ⟨x, s', _, c1, c2, R.back (K := [(145, 0)]) (M' := L_X12_best.filter (fun q => q.1 != 145)) (w_X11_best (I i) w s _ c1) ((w_X12_best (I i) w t _ c2).mono (by decide +kernel)) (by rcases okX4_c R.2.1.1 with rfl | rfl <;> decide +kernel) (by decide +kernel) (fun o k hk => ?_) (by decide)⟩
  have := wm1 hk
  subst this
  rw [sI_s]
  by_cases z : k = 4 + i
  · rw [if_pos z, z, sI_n _ _ _ (by decide)]
  · rw [if_neg z]; exact g3 k z
/-- a trial's round, by a rule of its own -/
theorem st_table (R : Rel p d c h n s t) (v w : Int32) : ∃ x s' t', f_X11_table v w s = some (x, s') ∧ f_X12_table v w t = some (x, t') ∧ Rel p d c h n s' t' := by
  have two : (2 : Int32).toInt = 2 := by decide
  have one : (1 : Int32).toInt = 1 := by decide
  have bad : ∀ s', f_X11_table v w s = some (-1, s) → f_X12_table v w t = some (-1, sI t 101 0 0) → s' = s → ∃ x s' t', f_X11_table v w s = some (x, s') ∧ f_X12_table v w t = some (x, t') ∧ Rel p d c h n s' t' := fun s' e1 e2 _ => ⟨_, _, _, e1, e2, R.t0⟩
  by_cases z1 : v < 1
  · refine bad s ?_ ?_ rfl
    · unfold f_X11_table; rw [if_pos z1]
    · rw [Int32.lt_iff_toInt_lt] at z1
      unfold f_X12_table; rw [ltb_t (a := sI t 101 0 0), within_0 (by omega), if_pos (Eq.refl _)]
  by_cases z2 : 2 < v
  · refine bad s ?_ ?_ rfl
    · unfold f_X11_table; rw [if_neg z1, if_pos z2]
    · rw [Int32.lt_iff_toInt_lt] at z2
      unfold f_X12_table; rw [ltb_t (a := sI t 101 0 0), within_0 (by omega), if_pos (Eq.refl _)]
  have hv : 1 ≤ v.toInt ∧ v.toInt ≤ 2 := by rw [Int32.lt_iff_toInt_lt] at z1 z2; omega
  by_cases z3 : w < 0
  · refine bad s ?_ ?_ rfl
    · unfold f_X11_table; rw [if_neg z1, if_neg z2, if_pos z3]
    · rw [Int32.lt_iff_toInt_lt] at z3
      unfold f_X12_table; rw [ltb_t (a := sI t 101 0 0), within_1 (by omega), if_neg one_ne, within_0 (by omega), if_pos (Eq.refl _)]
  by_cases z4 : w ≤ 2
  case neg =>
    refine bad s ?_ ?_ rfl
    · unfold f_X11_table; rw [if_neg z1, if_neg z2, if_neg z3, if_neg z4]
    · rw [Int32.le_iff_toInt_le] at z4
      unfold f_X12_table; rw [ltb_t (a := sI t 101 0 0), within_1 (by omega), if_neg one_ne, within_0 (by omega), if_pos (Eq.refl _)]
  have hw : 0 ≤ w.toInt ∧ w.toInt ≤ 2 := by
    rw [Int32.lt_iff_toInt_lt, Int32.toInt_zero] at z3
    rw [Int32.le_iff_toInt_le] at z4
    omega
  obtain ⟨s2, e1, T0, f1⟩ := r_copy R
  have T1 := T0.women hv
  have P := R.2.1
  obtain ⟨s3, g1, g2, g3, g4, g5, g6, g7, g8, g9, g10⟩ := r_layOut p 28 (sI s2 28 3 v)
  have f2 : Fr [(73, 3)] s3 (sI s3 73 2 w) := fr_sI (by decide)
  have h2 : Fr [(101, 62)] (sI (sI t 101 0 0) 145 3 v) (sI (sI (sI t 101 0 0) 145 3 v) 101 61 w) := fr_sI (by decide)
  have avl : av1 p L_X6_layOut = true := by rcases okX4_c P.1 with rfl | rfl <;> decide +kernel
  have av3' : av1 p [(73, 3)] = true := by rcases okX4_c P.1 with rfl | rfl <;> decide +kernel
  obtain ⟨q, P1, A1, O1, D1⟩ := T1
  obtain ⟨s4, t4, d1, d2, d3, d4, d5, d6⟩ := r_play (s := sI s3 73 2 w) (t := sI (sI (sI t 101 0 0) 145 3 v) 101 61 w) (a := 28) ((P1.fr (M := []) g2 Fr.refl avl (by decide)).fr f2 h2 av3' (by decide)) (by rw [f2.q3 (by decide)]; exact g3) (by rw [f2.q4 (by decide)]; exact g4) ((A1.fr (M := []) g2 Fr.refl (by decide +kernel) (by decide)).fr f2 h2 (by decide) (by decide))
    ⟨by rw [sI_k, sI_k]; exact ⟨rfl, hw.1, hw.2⟩, Or.inl ⟨by rw [sI_at]; simp; exact g7, by rw [sI_at]; simp; exact D1.2.1⟩, Or.inl ⟨by rw [sI_at]; simp; exact g8, by rw [sI_at]; simp; exact D1.2.2⟩⟩ ((O1.fr P.1 (M := []) g2 Fr.refl avl (by decide)).fr P.1 f2 h2 av3' (by decide)) (Or.inl (by rw [sI_at]; simp; exact D1.2.2))
  obtain ⟨x, x1, x2⟩ := r_drunkInAll d3.1 d3.2.1 d4
  have q7 : (sI s2 28 3 v).2.2.1 = p := q
  have c1 : f_X11_table v w s = some (x, s4) := by
    unfold f_X11_table
    rw [if_neg z1, if_neg z2, if_neg z3, if_pos z4, e1, bnd_t, ltb_t, q7, P.1, gd_t, g1, bnd_t, ltb_t, d1, bnd_t, x1, bnd_t]
  have o145 : t4.1 145 = (sI (sI t 101 0 0) 145 3 v).1 145 := by rw [d6.o (by decide +kernel), sI_n _ _ _ (by decide)]
  -- the totals don't read what is set back
  have x2' : f_X12_drunkInAll (sI (sI t4 101 61 0) 145 3 ((sI t 101 0 0).1 145 3)) = some x := by
    have k : Fr [(101, 62), (145, 0)] t4 (sI (sI t4 101 61 0) 145 3 ((sI t 101 0 0).1 145 3)) := (fr_sI (by decide)).trans (fr_sI (by decide))
    have rd : ∀ i, i < n → RSd i s4 (sI (sI t4 101 61 0) 145 3 ((sI t 101 0 0).1 145 3)) := fun i hi => by
      have := d4.2.1 i hi
      have e : (sI (sI t4 101 61 0) 145 3 ((sI t 101 0 0).1 145 3)).1 145 0 = t4.1 145 0 := by simp [sI_at]
      unfold RSd OUTi DW at this ⊢
      rw [e, k.o (by decide), k.o (by decide), k.o (by decide), k.o (by decide), k.o (by decide)]; exact this
    obtain ⟨y, y1, y2⟩ := r_drunkD (d3.1.fr (L := []) Fr.refl k (by rcases okX4_c P.1 with rfl | rfl <;> decide) (by decide)) d3.2.1 rd
    rw [y1] at x1
    rw [y2, x1]
  have c2 : f_X12_table v w t = some (x, sI (sI t4 101 61 0) 145 3 ((sI t 101 0 0).1 145 3)) := by
    unfold f_X12_table
    rw [ltb_t (a := sI t 101 0 0), within_1 (by omega), if_neg one_ne, within_1 (by rw [Int32.toInt_zero]; omega), if_neg one_ne, ltb_t, ltb_t, ltb_t, d2, bnd_t, ltb_t, ltb_t, x2', bnd_t]
  refine ⟨x, s4, _, c1, c2, R.back (K := [(145, 0), (101, 62)]) (M' := L_X12_table.filter (fun q => q.1 != 145 && q != (101, 62))) (w_X11_table v w s _ c1) ((w_X12_table v w t _ c2).mono (by decide +kernel)) (by rcases okX4_c R.2.1.1 with rfl | rfl <;> decide +kernel) (by decide +kernel) (fun o k hk => ?_) (by decide)⟩
  simp only [wm, List.any_cons, List.any_nil, Bool.or_false, Bool.or_eq_true, Bool.and_eq_true, beq_iff_eq] at hk
  rcases hk with ⟨rfl, -⟩ | ⟨rfl, hk⟩
  · rw [sI_s, sI_n _ _ _ (by decide)]
    by_cases z : k = 3
    · rw [if_pos z, z]
    · rw [if_neg z, sI_n _ _ _ (by decide), o145, sI_s, if_neg z, sI_n _ _ _ (by decide)]
  · have : k = 61 := by omega
    subst this
    rw [sI_n _ _ _ (by decide), sI_k]
    exact R.2.2.2.2.2.1.1.symm
end RING
