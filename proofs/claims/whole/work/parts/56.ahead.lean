/-! ahead, most -/
section AHEAD
variable {p d c h n : Nat} {s t : HS}
def AHL (p c h n i : Nat) (s t : HS) : Prop := s.2.2.1 = p ∧ PL p 0 c h n s t ∧ HR 64 h n s t ∧ OR p s t ∧ t.1 101 61 = 0 ∧ t.1 101 62 = -1 ∧ t.1 101 64 = I i
theorem r_ahead (R : Rel p d c h n s t) {i q : Nat} (hi : i < h) (hq : q ≤ 12) : ∃ x s' t', f_X11_meanAhead (I i) (I q) s = some (x, s') ∧ f_X12_aheadOf (I i) (I q) t = some (x, t') ∧ Rel p d c h n s' t' := by
  have okp := okX4_c R.2.1.1
  have hn0 := R.2.1.n6
  have key : ∀ e m, m + e = 4 → ∀ (x : Int32) (s t1 : HS), AHL p c h n i s t1 → ∃ y s' t', (∀ f, e < f → f_X11_meanAhead_l5 (I i) (I q) f x (I m) s = some (y * 100, s')) ∧ (∀ K f, e < f → f_X12_aheadOf_l10 (I q) K f x (I m) t1 = K y t') ∧ Fr [] s' s' := by
    intro e
    induction e with
    | zero =>
      intro m hm x s t1 T
      have hm : m = 4 := by omega
      subst hm
      refine ⟨x, s, t1, fun f hf => ?_, fun K f hf => ?_, Fr.refl⟩
      · obtain ⟨f', rfl⟩ : ∃ f', f = f' + 1 := ⟨f - 1, by omega⟩
        simp only [f_X11_meanAhead_l5, f_X11_meanAhead_l5b]
        exact if_pos (by decide)
      · obtain ⟨f', rfl⟩ : ∃ f', f = f' + 1 := ⟨f - 1, by omega⟩
        simp only [f_X12_aheadOf_l10, f_X12_aheadOf_l10b]
        exact if_pos (by decide)
    | succ e ih =>
      intro m hm x s t1 T
      obtain ⟨T1, P, A, O, D1, D2, D3⟩ := id T
      have hn := P.n6
      have h4 : ¬ (4 : Int32) ≤ I m := by rw [show (4 : Int32) = I 4 from litI 4, I_le (by omega) (by omega)]; omega
      have mm : (I m).toNatClampNeg = m := I_nat (by omega)
      have m4 : inb (I m) 4 = true := inb_t (by omega) (by omega)
      have m8 : inb (I m) 8 = true := inb_t (by omega) (by omega)
      have hl : EqB (s.1 (Rf p 7) m) (t1.1 119 m) 0 10 := by have := P.2.2.2.2.2.2.2.2.2 m (by omega); simpa using this
      obtain ⟨l1, l2, l3⟩ := hl
      by_cases z : t1.1 119 m = 0
      · have z' : t1.1 119 m ≤ 0 := by rw [z]; decide
        obtain ⟨y, s', t', g1, g2, g3⟩ := ih (m + 1) (by omega) x s t1 T
        refine ⟨y, s', t', fun f hf => ?_, fun K f hf => ?_, g3⟩
        · obtain ⟨f', rfl⟩ : ∃ f', f = f' + 1 := ⟨f - 1, by omega⟩
          simp only [f_X11_meanAhead_l5, f_X11_meanAhead_l5b, if_neg h4, T1, P.1, gd_t, m4, mm, l1, if_pos z', ltb_t, I_succ, g1 f' (by omega)]
        · obtain ⟨f', rfl⟩ : ∃ f', f = f' + 1 := ⟨f - 1, by omega⟩
          simp only [f_X12_aheadOf_l10, f_X12_aheadOf_l10b, if_neg h4, m8, gd_t, mm, if_pos z, ltb_t, I_succ, g2 K f' (by omega)]
      · have z' : ¬ t1.1 119 m ≤ 0 := by
          intro q
          rw [Int32.le_iff_toInt_le, Int32.toInt_zero] at q
          refine z ?_
          rw [← Int32.toInt_inj, Int32.toInt_zero]; omega
        obtain ⟨s3, b1, b2, b3, b4, b5, b6, b7, b8, b9, b10⟩ := r_layOut p 64 s
        have f2 : Fr [(73, 6), (73, 7), (73, 8)] s3 (sI (sI (sI s3 73 5 (I i)) 73 6 (I q)) 73 7 (I m)) := ((fr_sI (by decide)).trans (fr_sI (by decide))).trans (fr_sI (by decide))
        have h2 : Fr [(101, 66), (101, 67)] t1 (sI (sI t1 101 66 (I m)) 101 65 (I q)) := (fr_sI (by decide)).trans (fr_sI (by decide))
        have avl : av1 p L_X6_layOut = true := by rcases okp with rfl | rfl <;> decide +kernel
        have av3' : av1 p [(73, 6), (73, 7), (73, 8)] = true := by rcases okp with rfl | rfl <;> decide +kernel
        obtain ⟨s4, t4, d1, d2, d3, d4, d5, d6⟩ := r_play (s := sI (sI (sI s3 73 5 (I i)) 73 6 (I q)) 73 7 (I m)) (t := sI (sI t1 101 66 (I m)) 101 65 (I q)) (a := 64) ((P.fr (M := []) b2 Fr.refl avl (by decide)).fr f2 h2 av3' (by decide)) (by rw [f2.q3 (by decide)]; exact b3) (by rw [f2.q4 (by decide)]; exact b4) ((A.fr (M := []) b2 Fr.refl (by decide +kernel) (by decide)).fr f2 h2 (by decide) (by decide))
          ⟨by simp only [sI_at, Nat.reduceEqDiff, if_true, if_false]; rw [b5, D1]; exact ⟨rfl, by decide, by decide⟩, Or.inl ⟨by simp only [sI_at, Nat.reduceEqDiff, if_true, if_false]; exact b7, by simp only [sI_at, Nat.reduceEqDiff, if_true, if_false]; exact D2⟩, Or.inr ⟨i, hi, by simp only [sI_at, Nat.reduceEqDiff, if_true, if_false], by simp only [sI_at, Nat.reduceEqDiff, if_true, if_false]; exact D3, by simp only [sI_at, Nat.reduceEqDiff, if_true, if_false]; exact ⟨rfl, by rw [I_toInt (by omega)]; omega, by rw [I_toInt (by omega)]; omega⟩⟩⟩ ((O.fr P.1 (M := []) b2 Fr.refl avl (by decide)).fr P.1 f2 h2 av3' (by decide)) (Or.inr (by simp only [sI_at, Nat.reduceEqDiff, if_true, if_false]; exact ⟨rfl, by rw [I_toInt (by omega)]; omega, by rw [I_toInt (by omega)]; omega⟩))
        obtain ⟨y0, y1, y2⟩ := r_drunkInAll d3.1 d3.2.1 d4
        have n64 : t4.1 101 64 = I i := by rw [d6.1 101 64 (by decide +kernel), h2.1 101 64 (by decide)]; exact D3
        have stk : s4.1 73 6 = t4.1 101 65 := by
          rcases d3.2.2.2.2.2.2.2.2.1 with q | q
          · rw [n64] at q; exact absurd q (I_nn (by omega))
          · exact q.1
        have q4 : s4.2.2.1 = p := by rw [d5.2.2.1 (by decide +kernel), f2.2.2.1 (by decide), b2.2.2.1 (by decide +kernel)]; exact T1
        have l4 : s4.1 (Rf p 7) m = t4.1 119 m := by have := (d3.1.2.2.2.2.2.2.2.2.2 m (by omega)).1; simpa using this
        have T4 : AHL p c h n i s4 t4 := ⟨q4, d3.1, d3.2.2.2.1, d3.2.2.2.2.2.1, by rw [d6.1 101 61 (by decide +kernel), h2.1 101 61 (by decide)]; exact D1, by rw [d6.1 101 62 (by decide +kernel), h2.1 101 62 (by decide)]; exact D2, n64⟩
        obtain ⟨y, s', t', g1, g2, g3⟩ := ih (m + 1) (by omega) (x + t4.1 119 m * (y0 - t4.1 101 65)) s4 t4 T4
        refine ⟨y, s', t', fun f hf => ?_, fun K f hf => ?_, g3⟩
        · obtain ⟨f', rfl⟩ : ∃ f', f = f' + 1 := ⟨f - 1, by omega⟩
          simp only [f_X11_meanAhead_l5, f_X11_meanAhead_l5b, if_neg h4, T1, P.1, gd_t, m4, mm, l1, if_neg z', b1, bnd_t, ltb_t, d1, q4, y1, l4, stk, I_succ, g1 f' (by omega)]
        · obtain ⟨f', rfl⟩ : ∃ f', f = f' + 1 := ⟨f - 1, by omega⟩
          simp only [f_X12_aheadOf_l10, f_X12_aheadOf_l10b, if_neg h4, m8, gd_t, mm, if_neg z, ltb_t, d2, bnd_t, y2, I_succ, g2 K f' (by omega)]
  have g0 : Fr [(101, 65)] t (sI t 101 64 (I i)) := fr_sI (by decide)
  have av0 : av1 p [] = true := by rcases okp with rfl | rfl <;> decide
  obtain ⟨y, s', t', g1, g2, -⟩ := key 4 0 (by omega) 0 s (sI t 101 64 (I i)) ⟨R.1.1, R.2.1.fr (L := []) Fr.refl g0 av0 (by decide), R.2.2.1.fr (L := []) Fr.refl g0 (by decide) (by decide), R.2.2.2.1.fr R.2.1.1 (L := []) Fr.refl g0 av0 (by decide), by rw [g0.1 101 61 (by decide)]; exact R.2.2.2.2.2.1.1, by rw [g0.1 101 62 (by decide)]; exact R.2.2.2.2.2.1.2.1, sI_k _ _ _ _⟩
  have g1 := g1 FU (FU_lt (by omega))
  have g2 := g2 (fun v14 s15 => ltb (sI s15 101 64 (-1)) fun s16 => ltb (sI s16 101 66 0) fun s17 => some (v14 * 100, s17)) FU (FU_lt (by omega))
  rw [← I0] at g1 g2
  have c1 : f_X11_meanAhead (I i) (I q) s = some (y * 100, s') := by unfold f_X11_meanAhead; exact g1
  have c2 : f_X12_aheadOf (I i) (I q) t = some (y * 100, sI (sI t' 101 64 (-1)) 101 66 0) := by unfold f_X12_aheadOf; rw [ltb_t, g2, ltb_t, ltb_t]
  refine ⟨_, s', _, c1, c2, R.back (K := [(101, 65)]) (M' := L_X12_aheadOf.filter (fun q => q != (101, 65))) (w_X11_meanAhead _ _ s _ c1) ((w_X12_aheadOf _ _ t _ c2).mono (by decide +kernel)) (by rcases okp with rfl | rfl <;> decide +kernel) (by decide +kernel) (fun o k hk => ?_) (by decide)⟩
  simp only [wm, List.any_cons, List.any_nil, Bool.or_false, Bool.or_eq_true, Bool.and_eq_true, beq_iff_eq] at hk
  obtain ⟨rfl, hk⟩ := hk
  have : k = 64 := by omega
  subst this
  simp only [sI_at, Nat.reduceEqDiff, if_true, if_false]
  exact R.2.2.2.2.2.1.2.2.symm
theorem st_ahead (R : Rel p d c h n s t) (v w : Int32) : ∃ x s' t', f_X11_ahead v w s = some (x, s') ∧ f_X12_ahead v w t = some (x, t') ∧ Rel p d c h n s' t' := by
  have hn := R.2.1.n6
  unfold f_X11_ahead f_X12_ahead
  rw [ltb_t (a := sI t 101 0 0)]
  rcases po_e R.t0 v with ⟨i, hi, rfl, a1, a2, a3⟩ | ⟨a1, a2⟩
  case inr =>
    rw [a1, bnd_t, if_pos (Eq.refl _)]
    rcases a2 with a2 | ⟨i, hi, rfl, a2, a3⟩
    · rw [a2, if_pos (Eq.refl _)]; exact ⟨_, _, _, rfl, rfl, R.t0⟩
    · rw [a2, if_neg one_ne, inb_t (by omega) (by omega), gd_t, I_nat (by omega), if_pos a3]; exact ⟨_, _, _, rfl, rfl, R.t0⟩
  rw [a1, bnd_t, if_neg one_ne, a2, if_neg one_ne, inb_t (by omega) (by omega), gd_t, I_nat (by omega), if_neg a3, show (12 : Int32) = I 12 from litI 12]
  rcases r36 w 12 (by omega) (sI t 101 0 0) with ⟨k, k1, rfl, k2, -, k3, k4⟩ | ⟨k2, k4⟩
  · obtain ⟨x, s', t', x1, x2, x3⟩ := r_ahead R.t0 hi k1
    rw [if_neg k2, if_pos k3, k4, if_neg one_ne, x1, bnd2_t, x2, bnd2_t]
    exact ⟨_, _, _, rfl, rfl, x3⟩
  · rw [k4, if_pos (Eq.refl _)]
    rcases k2 with k2 | ⟨k2, -, k3⟩
    · rw [if_pos k2]; exact ⟨_, _, _, rfl, rfl, R.t0⟩
    · rw [if_neg k2, if_neg k3]; exact ⟨_, _, _, rfl, rfl, R.t0⟩
theorem st_most (R : Rel p d c h n s t) (v : Int32) : ∃ x s' t', f_X11_most v s = some (x, s') ∧ f_X12_most v t = some (x, t') ∧ Rel p d c h n s' t' := by
  have hn := R.2.1.n6
  unfold f_X11_most f_X12_most
  rw [ltb_t (a := sI t 101 0 0)]
  rcases po_e R.t0 v with ⟨i, hi, rfl, a1, a2, a3⟩ | ⟨a1, a2⟩
  case inr =>
    rw [a1, bnd_t, if_pos (Eq.refl _)]
    rcases a2 with a2 | ⟨i, hi, rfl, a2, a3⟩
    · rw [a2, if_pos (Eq.refl _)]; exact ⟨_, _, _, rfl, rfl, R.t0⟩
    · rw [a2, if_neg one_ne, inb_t (by omega) (by omega), gd_t, I_nat (by omega), if_pos a3]; exact ⟨_, _, _, rfl, rfl, R.t0⟩
  rw [a1, bnd_t, if_neg one_ne, a2, if_neg one_ne, inb_t (by omega) (by omega), gd_t, I_nat (by omega), if_neg a3]
  obtain ⟨x0, s0, t0, y1, y2, R1⟩ := r_ahead R.t0 hi (q := 0) (by omega)
  rw [I_e0] at y1 y2
  rw [y1, bnd2_t, y2, bnd2_t]
  have key : ∀ e k, k + e = 13 → ∀ (a b : Int32) (s t : HS), Rel p d c h n s t → ∃ x s' t', (∀ f, e < f → f_X11_most_l22 (I i) f a b (I k) s = some (x, s')) ∧ (∀ f, e < f → f_X12_most_l37 (I i) f a b (I k) t = some (x, t')) ∧ Rel p d c h n s' t' := by
    intro e
    induction e with
    | zero =>
      intro k hk a b s t R
      have hk : k = 13 := by omega
      subst hk
      refine ⟨a, s, t, fun f hf => ?_, fun f hf => ?_, R⟩
      · obtain ⟨f', rfl⟩ : ∃ f', f = f' + 1 := ⟨f - 1, by omega⟩
        simp only [f_X11_most_l22, f_X11_most_l22b]
        exact if_pos (by decide)
      · obtain ⟨f', rfl⟩ : ∃ f', f = f' + 1 := ⟨f - 1, by omega⟩
        simp only [f_X12_most_l37, f_X12_most_l37b]
        exact if_pos (by decide)
    | succ e ih =>
      intro k hk a b s t R
      have h12 : ¬ (12 : Int32) < I k := by rw [show (12 : Int32) = I 12 from litI 12, I_lt (by omega) (by omega)]; omega
      have h13 : ¬ (13 : Int32) ≤ I k := by rw [show (13 : Int32) = I 13 from litI 13, I_le (by omega) (by omega)]; omega
      obtain ⟨y, s1, t1, y1, y2, R2⟩ := r_ahead R hi (q := k) (by omega)
      by_cases z : y ≤ b
      · have z' : ¬ b < y := Int32.not_lt.mpr z
        obtain ⟨x, s', t', g1, g2, g3⟩ := ih (k + 1) (by omega) a b s1 t1 R2
        refine ⟨x, s', t', fun f hf => ?_, fun f hf => ?_, g3⟩
        · obtain ⟨f', rfl⟩ : ∃ f', f = f' + 1 := ⟨f - 1, by omega⟩
          simp only [f_X11_most_l22, f_X11_most_l22b, if_neg h12, y1, bnd2_t, if_pos z, ltb_t, I_succ, g1 f' (by omega)]
        · obtain ⟨f', rfl⟩ : ∃ f', f = f' + 1 := ⟨f - 1, by omega⟩
          simp only [f_X12_most_l37, f_X12_most_l37b, if_neg h13, y2, bnd2_t, if_neg z', ltb_t, I_succ, g2 f' (by omega)]
      · have z' : b < y := Int32.not_le.mp z
        obtain ⟨x, s', t', g1, g2, g3⟩ := ih (k + 1) (by omega) (I k) y s1 t1 R2
        refine ⟨x, s', t', fun f hf => ?_, fun f hf => ?_, g3⟩
        · obtain ⟨f', rfl⟩ : ∃ f', f = f' + 1 := ⟨f - 1, by omega⟩
          simp only [f_X11_most_l22, f_X11_most_l22b, if_neg h12, y1, bnd2_t, if_neg z, ltb_t, I_succ, g1 f' (by omega)]
        · obtain ⟨f', rfl⟩ : ∃ f', f = f' + 1 := ⟨f - 1, by omega⟩
          simp only [f_X12_most_l37, f_X12_most_l37b, if_neg h13, y2, bnd2_t, if_pos z', ltb_t, I_succ, g2 f' (by omega)]
  obtain ⟨x, s', t', g1, g2, g3⟩ := key 12 1 (by omega) 0 x0 s0 t0 R1
  have g1 := g1 FU (FU_lt (by omega))
  have g2 := g2 FU (FU_lt (by omega))
  rw [I_e1] at g1 g2
  exact ⟨x, s', t', g1, g2, g3⟩
end AHEAD
