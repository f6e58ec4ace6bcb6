/-! feed -/
theorem nar_c : ∀ k, k < 127 → vp_nar .char (((I k).toUInt32 % 65536).toInt32) = I k := by decide +kernel
def sh (j : Nat) : Int32 := (56 : Int32) - 8 * I j
theorem sh_e : (∀ j, j < 8 → ¬ sh j < 0 ∧ sh j + (-8) = sh (j + 1) ∧ ∀ b, b < 3 → (56 - (8 * ((I (8 * b + j)) &&& (7 : Int32))) : Int32) = sh j) ∧ sh 8 < 0 ∧ sh 0 = 56 := by decide +kernel
section FEED
variable {p d c h n : Nat} {s t : HS}
theorem r_byte (x : Int32) (T : TP s t) : ∃ s' t', (∀ v1 v3 k3, (if x = 10 then f_X8_append_j38 v1 v3 x k3 s else (if x < 32 then ltb (v3 + (-8)) fun x11 => k3 x11 s else (if 126 < x then ltb (v3 + (-8)) fun x13 => k3 x13 s else f_X8_append_j38 v1 v3 x k3 s))) = k3 (v3 + (-8)) s') ∧
    (∀ v1 v3 v5 v7 k8, (if 1000 ≤ (t.1 101 1) then ltb (v7 + 1) fun x7 => k8 x7 t else (if x = 10 then f_X12_feed_j93 v1 v3 v5 v7 x k8 t else (if x < 32 then ltb (v7 + 1) fun x14 => k8 x14 t else (if 126 < x then ltb (v7 + 1) fun x16 => k8 x16 t else f_X12_feed_j93 v1 v3 v5 v7 x k8 t)))) = k8 (v7 + 1) t') ∧ TP s' t' ∧ Fr [(36, 2), (37, 0)] s s' ∧ Fr [(101, 2), (102, 0)] t t' := by
  obtain ⟨l, l1, l2, l3, l4⟩ := id T
  have add : (10 ≤ x.toInt ∧ x.toInt ≤ 126) → l < 1000 → ∃ s' t', (∀ v1 v3 k3, f_X8_append_j38 v1 v3 x k3 s = k3 (v3 + (-8)) s') ∧ (∀ v1 v3 v5 v7 k8, f_X12_feed_j93 v1 v3 v5 v7 x k8 t = k8 (v7 + 1) t') ∧ TP s' t' ∧ Fr [(36, 2), (37, 0)] s s' ∧ Fr [(101, 2), (102, 0)] t t' := by
    intro hx hl
    obtain ⟨k, k1, rfl⟩ : ∃ k, k < 127 ∧ x = I k := ⟨x.toInt.toNat, by omega, I_of (by omega)⟩
    have i1 : inb (I l) 1000 = true := inb_t (by omega) (by omega)
    have k2 : (I l).toNatClampNeg = l := I_nat (by omega)
    have n1 : ¬ (1000 : Int32) ≤ I l := by rw [show (1000 : Int32) = I 1000 from litI 1000, I_le (by omega) (by omega)]; omega
    refine ⟨sI (sI s 37 l (I k)) 36 1 (I (l + 1)), sI (sI t 102 l (I k)) 101 1 (I (l + 1)), fun v1 v3 k3 => ?_, fun v1 v3 v5 v7 k8 => ?_, ⟨l + 1, by omega, by rw [sI_k], by rw [sI_k], fun i hi => ?_⟩, (fr_sI (by simp [wm])).trans (fr_sI (by decide)), (fr_sI (by simp [wm])).trans (fr_sI (by decide))⟩
    · unfold f_X8_append_j38
      rw [l2, if_neg n1, i1, gd_t, k2, nar_c k k1, ltb_t, sI_n _ _ _ (by decide), l2, I_p1, ltb_t, ltb_t]
    · unfold f_X12_feed_j93
      rw [l3, i1, gd_t, k2, ltb_t, sI_n _ _ _ (by decide), l3, I_p1, ltb_t, ltb_t]
    · have e37 : (sI (sI s 37 l (I k)) 36 1 (I (l + 1))).1 37 i = if i = l then I k else s.1 37 i := by rw [sI_n _ _ _ (by decide), sI_s]
      have e102 : (sI (sI t 102 l (I k)) 101 1 (I (l + 1))).1 102 i = if i = l then I k else t.1 102 i := by rw [sI_n _ _ _ (by decide), sI_s]
      rw [e37, e102]
      by_cases z : i = l
      · subst z
        rw [if_pos (Eq.refl _), if_pos (Eq.refl _)]
        exact ⟨rfl, by rw [I_toInt (by omega)]; omega, by rw [I_toInt (by omega)]; omega⟩
      · rw [if_neg z, if_neg z]; exact l4 i (by omega)
  have i10 : (10 : Int32).toInt = 10 := by decide
  have i32 : (32 : Int32).toInt = 32 := by decide
  have i126 : (126 : Int32).toInt = 126 := by decide
  by_cases full : (1000 : Int32) ≤ I l
  · refine ⟨s, t, fun v1 v3 k3 => ?_, fun v1 v3 v5 v7 k8 => ?_, T, Fr.refl, Fr.refl⟩
    · have e : f_X8_append_j38 v1 v3 x k3 s = k3 (v3 + (-8)) s := by
        unfold f_X8_append_j38
        rw [l2, if_pos full, ltb_t]
      rw [e]
      simp only [ltb_t, ite_self]
    · rw [l3, if_pos full, ltb_t]
  · have hl : l < 1000 := by rw [show (1000 : Int32) = I 1000 from litI 1000, I_le (by omega) (by omega)] at full; omega
    by_cases x10 : x = 10
    · obtain ⟨s', t', g1, g2, g3⟩ := add (by rw [x10, i10]; omega) hl
      refine ⟨s', t', fun v1 v3 k3 => ?_, fun v1 v3 v5 v7 k8 => ?_, g3⟩
      · rw [if_pos x10, g1]
      · rw [l3, if_neg full, if_pos x10, g2]
    by_cases x32 : x < 32
    · refine ⟨s, t, fun v1 v3 k3 => ?_, fun v1 v3 v5 v7 k8 => ?_, T, Fr.refl, Fr.refl⟩
      · rw [if_neg x10, if_pos x32, ltb_t]
      · rw [l3, if_neg full, if_neg x10, if_pos x32, ltb_t]
    by_cases x126 : 126 < x
    · refine ⟨s, t, fun v1 v3 k3 => ?_, fun v1 v3 v5 v7 k8 => ?_, T, Fr.refl, Fr.refl⟩
      · rw [if_neg x10, if_neg x32, if_pos x126, ltb_t]
      · rw [l3, if_neg full, if_neg x10, if_neg x32, if_pos x126, ltb_t]
    · obtain ⟨s', t', g1, g2, g3⟩ := add (by rw [Int32.lt_iff_toInt_lt] at x32 x126; omega) hl
      refine ⟨s', t', fun v1 v3 k3 => ?_, fun v1 v3 v5 v7 k8 => ?_, g3⟩
      · rw [if_neg x10, if_neg x32, if_neg x126, g1]
      · rw [l3, if_neg full, if_neg x10, if_neg x32, if_neg x126, g2]
theorem r_word {b : Nat} (hb : b < 3) {w v1 v3 v5 : Int64} (hw : (b = 0 ∧ w = v1) ∨ (b = 1 ∧ w = v3) ∨ (b = 2 ∧ w = v5)) : ∀ e j, j + e = 8 → ∀ s t, TP s t → ∃ s' t', (∀ f, e < f → f_X8_append_l3 w f (sh j) s = some s') ∧ (∀ f, f_X12_feed_l8 v1 v3 v5 (f + e) (I (8 * b + j)) t = f_X12_feed_l8 v1 v3 v5 f (I (8 * b + 8)) t') ∧ TP s' t' ∧ Fr [(36, 2), (37, 0)] s s' ∧ Fr [(101, 2), (102, 0)] t t' := by
  intro e
  induction e with
  | zero =>
    intro j hj s t T
    have hj : j = 8 := by omega
    subst hj
    refine ⟨s, t, fun f hf => ?_, fun f => rfl, T, Fr.refl, Fr.refl⟩
    obtain ⟨f', rfl⟩ : ∃ f', f = f' + 1 := ⟨f - 1, by omega⟩
    simp only [f_X8_append_l3, f_X8_append_l3b, if_pos sh_e.2.1]
  | succ e ih =>
    intro j hj s t T
    obtain ⟨j1, j2, j3⟩ := sh_e.1 j (by omega)
    have j3 := j3 b hb
    generalize hx : (((((w.toUInt64 >>> ((sh j : Int32).toInt64.toUInt64 &&& Int64.toUInt64 63)).toInt64) : Int64) &&& (255 : Int64) : Int64).toInt32) = x
    obtain ⟨s1, t1, g1, g2, g3, g4, g5⟩ := r_byte x T
    obtain ⟨s', t', h1, h2, h3, h4, h5⟩ := ih (j + 1) (by omega) s1 t1 g3
    refine ⟨s', t', fun f hf => ?_, fun f => ?_, h3, g4.trans h4, g5.trans h5⟩
    · obtain ⟨f', rfl⟩ : ∃ f', f = f' + 1 := ⟨f - 1, by omega⟩
      simp only [f_X8_append_l3, f_X8_append_l3b, if_neg j1, hx]
      rw [ltb_t (a := x), g1, j2]
      exact h1 f' (by omega)
    · rw [← h2 f]
      show f_X12_feed_l8b v1 v3 v5 (I (8 * b + j)) (f_X12_feed_l8 v1 v3 v5 (f + e)) t = _
      have n24 : ¬ (24 : Int32) ≤ I (8 * b + j) := by rw [show (24 : Int32) = I 24 from litI 24, I_le (by omega) (by omega)]; omega
      have key : f_X12_feed_j39 v1 v3 v5 (I (8 * b + j)) w (f_X12_feed_l8 v1 v3 v5 (f + e)) t = f_X12_feed_l8 v1 v3 v5 (f + e) (I (8 * b + (j + 1))) t1 := by
        unfold f_X12_feed_j39
        rw [j3, hx, ltb_t (a := x), g2, I_p1]
        rfl
      rw [← key]
      unfold f_X12_feed_l8b
      rw [if_neg n24]
      rcases hw with ⟨rfl, rfl⟩ | ⟨rfl, rfl⟩ | ⟨rfl, rfl⟩
      · rw [if_neg (by rw [show (8 : Int32) = I 8 from litI 8, I_le (by omega) (by omega)]; omega)]
      · rw [if_pos (by rw [show (8 : Int32) = I 8 from litI 8, I_le (by omega) (by omega)]; omega), if_neg (by rw [show (16 : Int32) = I 16 from litI 16, I_le (by omega) (by omega)]; omega)]
      · rw [if_pos (by rw [show (8 : Int32) = I 8 from litI 8, I_le (by omega) (by omega)]; omega), if_pos (by rw [show (16 : Int32) = I 16 from litI 16, I_le (by omega) (by omega)]; omega)]
theorem fuel24 : ∃ k, FU = k + 1 + 8 + 8 + 8 := ⟨FU - 25, by have := FU_lt (show 24 < 5000 by omega); omega⟩
theorem st_feed (R0 : Rel p d c h n s t) (v1 v3 v5 : Int64) : ∃ x s' t', f_X11_feed v1 v3 v5 s = some (x, s') ∧ f_X12_feed v1 v3 v5 t = some (x, t') ∧ Rel p d c h n s' t' := by
  have R := R0.t0
  have okp := okX4_c R.2.1.1
  obtain ⟨s1, t1, a1, a2, a3, a4, a5⟩ := r_word (b := 0) (by omega) (Or.inl ⟨rfl, rfl⟩ : (0 = 0 ∧ v1 = v1) ∨ (0 = 1 ∧ v1 = v3) ∨ (0 = 2 ∧ v1 = v5)) 8 0 (by omega) s (sI t 101 0 0) R.2.2.2.2.2.2.1
  obtain ⟨s2, t2, b1, b2, b3, b4, b5⟩ := r_word (b := 1) (by omega) (Or.inr (Or.inl ⟨rfl, rfl⟩) : (1 = 0 ∧ v3 = v1) ∨ (1 = 1 ∧ v3 = v3) ∨ (1 = 2 ∧ v3 = v5)) 8 0 (by omega) s1 t1 a3
  obtain ⟨s3, t3, c1, c2, c3, c4, c5⟩ := r_word (b := 2) (by omega) (Or.inr (Or.inr ⟨rfl, rfl⟩) : (2 = 0 ∧ v5 = v1) ∨ (2 = 1 ∧ v5 = v3) ∨ (2 = 2 ∧ v5 = v5)) 8 0 (by omega) s2 t2 b3
  have a1 := a1 FU (FU_lt (by omega))
  have b1 := b1 FU (FU_lt (by omega))
  have c1 := c1 FU (FU_lt (by omega))
  rw [sh_e.2.2] at a1 b1 c1
  obtain ⟨k, hk⟩ := fuel24
  have e36 : s3.1 36 1 = t3.1 101 1 := by obtain ⟨l, -, l2, l3, -⟩ := c3; rw [l2, l3]
  have C1 : f_X11_feed v1 v3 v5 s = some (t3.1 101 1, s3) := by
    unfold f_X11_feed f_X8_append
    rw [a1, bnd_t, b1, bnd_t, c1, bnd_t, e36]
  have C2 : f_X12_feed v1 v3 v5 t = some (t3.1 101 1, t3) := by
    unfold f_X12_feed
    rw [ltb_t (a := sI t 101 0 0), hk]
    have a2 := a2 (k + 1 + 8 + 8)
    have b2 := b2 (k + 1 + 8)
    have c2 := c2 (k + 1)
    rw [show 8 * 0 + 0 = 0 from rfl, I_e0] at a2
    rw [a2]
    rw [show 8 * 0 + 8 = 8 * 1 + 0 from rfl, b2, show 8 * 1 + 8 = 8 * 2 + 0 from rfl, c2]
    simp only [f_X12_feed_l8, f_X12_feed_l8b]
    exact if_pos (by decide)
  have f : Fr [(36, 2), (37, 0)] s s3 := a4.trans (b4.trans c4)
  have g : Fr [(101, 2), (102, 0)] (sI t 101 0 0) t3 := a5.trans (b5.trans c5)
  refine ⟨_, s3, t3, C1, C2, ?_⟩
  obtain ⟨⟨r1, r2, r3, r4⟩, q1, q2, q3, q4, q5, q6, q7, q8, q9⟩ := R
  have av : av1 p [(36, 2), (37, 0)] = true := by rcases okp with rfl | rfl <;> decide
  have hh := q1.n6
  refine ⟨⟨by rw [f.2.2.1 (by decide)]; exact r1, by rw [f.2.2.2.1 (by decide)]; exact r2, r3, r4⟩, q1.fr f g av (by decide), q2.fr f g (by decide) (by decide), q3.fr q1.1 f g av (by decide), q4.fr q1.1 hh f g av (by decide), by rw [g.1 _ _ (by decide), g.1 _ _ (by decide), g.1 _ _ (by decide)]; exact q5, c3, q7.fr f g (by decide) (by decide), q8.row f (by decide) (g.o (by decide)) (g.o (by decide)) (g.o (by decide)) (fun m hm => ⟨⟨by rw [g.o (by decide)], by rw [g.o (by decide)], by rw [g.o (by decide)]⟩, fun i _ => ⟨by rw [g.o (by decide)], by rw [g.o (by decide)], by rw [g.o (by decide)]⟩, fun i _ => ⟨by rw [g.o (by decide)], by rw [g.o (by decide)]⟩, fun i _ => ⟨by rw [g.o (by decide)], by rw [g.o (by decide)]⟩⟩), q9.cg hh.2.1 (f.1 _ _ (by decide)) (f.o (by decide)) (g.1 _ _ (by decide)) (g.o (by decide)) (fun q _ => by rw [g.o (by decide)]) (g.o (by decide))⟩
end FEED
