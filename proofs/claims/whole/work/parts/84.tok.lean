/-! The next token, of both: the tape is the same -/
def CH (L : Nat) (s t : HS) : Prop := L ≤ 1000 ∧ s.1 36 1 = I L ∧ t.1 101 3 = I L ∧ ∀ i, i < L → s.1 37 i = t.1 102 i ∧ 0 ≤ (t.1 102 i).toInt ∧ (t.1 102 i).toInt ≤ 126
section TOK
variable {L : Nat} {s t : HS}
theorem CH.fr {s' t' : HS} {A B : List (Nat × Nat)} (C : CH L s t) (f : Fr A s s') (g : Fr B t t') (h1 : wm A 36 1 = false ∧ wo A 37 = false) (h2 : wm B 101 3 = false ∧ wo B 102 = false) : CH L s' t' := by
  unfold CH
  rw [f.1 _ _ h1.1, f.o h1.2, g.1 _ _ h2.1, g.o h2.2]; exact C
/-- blanks are passed over -/
theorem r_skip : ∀ e P, P + e = L → ∀ s t, CH L s t → s.1 36 3 = I P → t.1 101 4 = I P → ∃ Q s' t', P ≤ Q ∧ Q ≤ L ∧ (∀ K f, e < f → f_X8_step_l8 K f s = K s') ∧ (∀ K f, e < f → f_X12_nextToken_l0 K f t = K t') ∧ Fr [(36, 4)] s s' ∧ Fr [(101, 5)] t t' ∧ s'.1 36 3 = I Q ∧ t'.1 101 4 = I Q ∧ (Q < L → t.1 102 Q ≠ 32 ∧ t.1 102 Q ≠ 10) := by
  intro e
  induction e with
  | zero =>
    intro P hP s t C h1 h2
    have hP : P = L := by omega
    subst hP
    obtain ⟨c1, c2, c3, c4⟩ := C
    refine ⟨P, s, t, Nat.le_refl _, Nat.le_refl _, fun K f hf => ?_, fun K f hf => ?_, Fr.refl, Fr.refl, h1, h2, fun q => absurd q (Nat.lt_irrefl _)⟩
    · obtain ⟨f', rfl⟩ : ∃ f', f = f' + 1 := ⟨f - 1, by omega⟩
      simp only [f_X8_step_l8, f_X8_step_l8b, c2, h1, if_pos (Int32.le_refl _)]
    · obtain ⟨f', rfl⟩ : ∃ f', f = f' + 1 := ⟨f - 1, by omega⟩
      simp only [f_X12_nextToken_l0, f_X12_nextToken_l0b, c3, h2, if_pos (Int32.le_refl _)]
  | succ e ih =>
    intro P hP s t C h1 h2
    obtain ⟨c1, c2, c3, c4⟩ := id C
    have np : ¬ I L ≤ I P := by rw [I_le (by omega) (by omega)]; omega
    have ip : inb (I P) 1000 = true := inb_t (by omega) (by omega)
    have kp : (I P).toNatClampNeg = P := I_nat (by omega)
    have ch := (c4 P (by omega)).1
    by_cases z : t.1 102 P = 32 ∨ t.1 102 P = 10
    · obtain ⟨Q, s', t', q1, q2, q3, q4, q5, q6, q7, q8, q9⟩ := ih (P + 1) (by omega) (sI s 36 3 (I (P + 1))) (sI t 101 4 (I (P + 1))) (C.fr (A := [(36, 4)]) (B := [(101, 5)]) (fr_sI (by decide)) (fr_sI (by decide)) (by decide) (by decide)) (sI_k _ _ _ _) (sI_k _ _ _ _)
      have e102 : (sI t 101 4 (I (P + 1))).1 102 = t.1 102 := sI_n _ _ _ (by decide)
      rw [e102] at q9
      refine ⟨Q, s', t', by omega, q2, fun K f hf => ?_, fun K f hf => ?_, (fr_sI (by decide)).trans q5, (fr_sI (by decide)).trans q6, q7, q8, q9⟩
      · obtain ⟨f', rfl⟩ : ∃ f', f = f' + 1 := ⟨f - 1, by omega⟩
        have := q3 K f' (by omega)
        simp only [f_X8_step_l8, f_X8_step_l8b, c2, h1, if_neg np, ip, gd_t, kp, ch, f_X8_step_j47, I_p1, ltb_t]
        rcases z with z | z
        · rw [z, if_pos (Eq.refl _)]; exact this
        · rw [z, if_neg (by decide), if_pos (Eq.refl _)]; exact this
      · obtain ⟨f', rfl⟩ : ∃ f', f = f' + 1 := ⟨f - 1, by omega⟩
        have := q4 K f' (by omega)
        simp only [f_X12_nextToken_l0, f_X12_nextToken_l0b, c3, h2, if_neg np, ip, gd_t, kp, f_X12_nextToken_j39, I_p1, ltb_t]
        rcases z with z | z
        · rw [z, if_pos (Eq.refl _)]; exact this
        · rw [z, if_neg (by decide), if_pos (Eq.refl _)]; exact this
    · have z1 : ¬ t.1 102 P = 32 := fun q => z (Or.inl q)
      have z2 : ¬ t.1 102 P = 10 := fun q => z (Or.inr q)
      refine ⟨P, s, t, Nat.le_refl _, by omega, fun K f hf => ?_, fun K f hf => ?_, Fr.refl, Fr.refl, h1, h2, fun _ => ⟨z1, z2⟩⟩
      · obtain ⟨f', rfl⟩ : ∃ f', f = f' + 1 := ⟨f - 1, by omega⟩
        simp only [f_X8_step_l8, f_X8_step_l8b, c2, h1, if_neg np, ip, gd_t, kp, ch, if_neg z1, if_neg z2]
      · obtain ⟨f', rfl⟩ : ∃ f', f = f' + 1 := ⟨f - 1, by omega⟩
        simp only [f_X12_nextToken_l0, f_X12_nextToken_l0b, c3, h2, if_neg np, ip, gd_t, kp, if_neg z1, if_neg z2]
/-- the digits of a number -/
theorem r_digits {B : Nat} : ∀ e P, P + e = L → B ≤ P → ∀ s t, CH L s t → s.1 36 3 = I P → t.1 101 4 = I P → t.1 101 5 = I B → (P - B ≤ 4 → ∃ N, N < 10 ^ (P - B) ∧ s.1 36 6 = I N ∧ t.1 101 8 = I N) → ∃ Q s' t', P ≤ Q ∧ Q ≤ L ∧ (∀ K f, e < f → f_X8_stepNumber_l5 K f s = K s') ∧ (∀ K f, e < f → f_X12_nextToken_l224 K f t = K t') ∧ Fr [(36, 4), (36, 7)] s s' ∧ Fr [(101, 5), (101, 9)] t t' ∧ s'.1 36 3 = I Q ∧ t'.1 101 4 = I Q ∧ (Q - B ≤ 4 → ∃ N, N < 10 ^ (Q - B) ∧ s'.1 36 6 = I N ∧ t'.1 101 8 = I N) ∧ (P < L → ¬ t.1 102 P < 48 → ¬ 57 < t.1 102 P → P < Q) := by
  intro e
  induction e with
  | zero =>
    intro P hP hB s t C h1 h2 h3 h4
    have hP : P = L := by omega
    subst hP
    obtain ⟨c1, c2, c3, c4⟩ := C
    refine ⟨P, s, t, Nat.le_refl _, Nat.le_refl _, fun K f hf => ?_, fun K f hf => ?_, Fr.refl, Fr.refl, h1, h2, h4, fun q => absurd q (by omega)⟩
    · obtain ⟨f', rfl⟩ : ∃ f', f = f' + 1 := ⟨f - 1, by omega⟩
      simp only [f_X8_stepNumber_l5, f_X8_stepNumber_l5b, c2, h1, if_pos (Int32.le_refl _)]
    · obtain ⟨f', rfl⟩ : ∃ f', f = f' + 1 := ⟨f - 1, by omega⟩
      simp only [f_X12_nextToken_l224, f_X12_nextToken_l224b, f_X12_signAt, c3, h2, if_pos (Int32.le_refl _), bnd_t]
      exact if_pos (by decide)
  | succ e ih =>
    intro P hP hB s t C h1 h2 h3 h4
    obtain ⟨c1, c2, c3, c4⟩ := id C
    have np : ¬ I L ≤ I P := by rw [I_le (by omega) (by omega)]; omega
    have ip : inb (I P) 1000 = true := inb_t (by omega) (by omega)
    have kp : (I P).toNatClampNeg = P := I_nat (by omega)
    obtain ⟨ch, ch0, ch1⟩ := c4 P (by omega)
    have i48 : (48 : Int32).toInt = 48 := by decide
    have i57 : (57 : Int32).toInt = 57 := by decide
    have sg : f_X12_signAt (I P) t = some (t.1 102 P) := by
      unfold f_X12_signAt
      rw [c3, if_neg np, ip, gd_t, kp]
    by_cases z1 : t.1 102 P < 48
    · refine ⟨P, s, t, Nat.le_refl _, by omega, fun K f hf => ?_, fun K f hf => ?_, Fr.refl, Fr.refl, h1, h2, h4, fun _ q => absurd z1 q⟩
      · obtain ⟨f', rfl⟩ : ∃ f', f = f' + 1 := ⟨f - 1, by omega⟩
        simp only [f_X8_stepNumber_l5, f_X8_stepNumber_l5b, c2, h1, if_neg np, ip, gd_t, kp, ch, if_pos z1]
      · obtain ⟨f', rfl⟩ : ∃ f', f = f' + 1 := ⟨f - 1, by omega⟩
        simp only [f_X12_nextToken_l224, f_X12_nextToken_l224b, h2, sg, bnd_t, if_pos z1]
    by_cases z2 : 57 < t.1 102 P
    · refine ⟨P, s, t, Nat.le_refl _, by omega, fun K f hf => ?_, fun K f hf => ?_, Fr.refl, Fr.refl, h1, h2, h4, fun _ _ q => absurd z2 q⟩
      · obtain ⟨f', rfl⟩ : ∃ f', f = f' + 1 := ⟨f - 1, by omega⟩
        simp only [f_X8_stepNumber_l5, f_X8_stepNumber_l5b, c2, h1, if_neg np, ip, gd_t, kp, ch, if_neg z1, if_pos z2]
      · obtain ⟨f', rfl⟩ : ∃ f', f = f' + 1 := ⟨f - 1, by omega⟩
        simp only [f_X12_nextToken_l224, f_X12_nextToken_l224b, h2, sg, bnd_t, if_neg z1, if_pos z2]
    · -- a digit
      rw [Int32.lt_iff_toInt_lt] at z1 z2
      obtain ⟨x, x1, x2⟩ : ∃ x, x < 10 ∧ t.1 102 P = I (48 + x) := ⟨(t.1 102 P).toInt.toNat - 48, by omega, by rw [show 48 + ((t.1 102 P).toInt.toNat - 48) = (t.1 102 P).toInt.toNat from by omega]; exact I_of ch0⟩
      have n48 : ¬ I (48 + x) < 48 := by rw [← x2, Int32.lt_iff_toInt_lt]; exact z1
      have n57 : ¬ 57 < I (48 + x) := by rw [← x2, Int32.lt_iff_toInt_lt]; exact z2
      have C' : ∀ y y' : Int32, CH L (sI (sI s 36 6 y) 36 3 (I (P + 1))) (sI (sI t 101 8 y') 101 4 (I (P + 1))) := fun y y' => C.fr (A := [(36, 4), (36, 7)]) (B := [(101, 5), (101, 9)]) ((fr_sI (by decide)).trans (fr_sI (by decide))) ((fr_sI (by decide)).trans (fr_sI (by decide))) (by decide) (by decide)
      have sub48 : I (48 + x) - (48 : Int32) = I x := by rw [show (48 : Int32) = I 48 from litI 48, I_sub (by omega), Nat.add_sub_cancel_left]
      have lhs : ∀ K f, f_X8_stepNumber_l5 K (f + 1) s = f_X8_stepNumber_l5 K f (sI (sI s 36 6 ((s.1 36 6) * 10 + I x)) 36 3 (I (P + 1))) := fun K f => by
        simp only [f_X8_stepNumber_l5, f_X8_stepNumber_l5b, c2, h1, if_neg np, ip, gd_t, kp, ch, x2, if_neg n48, if_neg n57, sub48, ltb_t]
        rw [sI_s, if_neg (by decide), h1, I_p1]
      by_cases z : P - B < 4
      · obtain ⟨N, N1, N2, N3⟩ := h4 (by omega)
        have sub : I P - I B = I (P - B) := I_sub hB
        have n4 : ¬ (4 : Int32) ≤ I (P - B) := by rw [show (4 : Int32) = I 4 from litI 4, I_le (by omega) (by omega)]; omega
        have m10 : I N * (10 : Int32) + I x = I (10 * N + x) := by rw [show (10 : Int32) = I 10 from litI 10, I_mul, I_add, Nat.mul_comm]
        have m10' : I N * (10 : Int32) + I (48 + x) - 48 = I (10 * N + x) := by rw [show (10 : Int32) = I 10 from litI 10, I_mul, I_add, show (48 : Int32) = I 48 from litI 48, I_sub (by omega)]; congr 1; omega
        obtain ⟨Q, s', t', q1, q2, q3, q4, q5, q6, q7, q8, q9, -⟩ := ih (P + 1) (by omega) (by omega) (sI (sI s 36 6 (I (10 * N + x))) 36 3 (I (P + 1))) (sI (sI t 101 8 (I (10 * N + x))) 101 4 (I (P + 1))) (C' _ _) (sI_k _ _ _ _) (sI_k _ _ _ _) (by rw [sI_s, if_neg (by decide), sI_s, if_neg (by decide)]; exact h3) (fun _ => ⟨10 * N + x, by rw [show P + 1 - B = (P - B) + 1 from by omega, Nat.pow_succ]; omega, by rw [sI_s, if_neg (by decide), sI_k], by rw [sI_s, if_neg (by decide), sI_k]⟩)
        refine ⟨Q, s', t', by omega, q2, fun K f hf => ?_, fun K f hf => ?_, ((fr_sI (by decide)).trans (fr_sI (by decide))).trans q5, ((fr_sI (by decide)).trans (fr_sI (by decide))).trans q6, q7, q8, q9, fun _ _ _ => by omega⟩
        · obtain ⟨f', rfl⟩ : ∃ f', f = f' + 1 := ⟨f - 1, by omega⟩
          rw [lhs, N2, m10]; exact q3 K f' (by omega)
        · obtain ⟨f', rfl⟩ : ∃ f', f = f' + 1 := ⟨f - 1, by omega⟩
          simp only [f_X12_nextToken_l224, f_X12_nextToken_l224b, h2, sg, bnd_t, x2, if_neg n48, if_neg n57, h3, sub, if_neg n4, N3, m10', ltb_t, f_X12_nextToken_j286]
          rw [sI_s, if_neg (by decide), h2, I_p1]
          exact q4 K f' (by omega)
      · have sub : I P - I B = I (P - B) := I_sub hB
        have n4 : (4 : Int32) ≤ I (P - B) := by rw [show (4 : Int32) = I 4 from litI 4, I_le (by omega) (by omega)]; omega
        obtain ⟨Q, s', t', q1, q2, q3, q4, q5, q6, q7, q8, q9, -⟩ := ih (P + 1) (by omega) (by omega) (sI (sI s 36 6 ((s.1 36 6) * 10 + I x)) 36 3 (I (P + 1))) (sI (sI t 101 8 (t.1 101 8)) 101 4 (I (P + 1))) (C' _ _) (sI_k _ _ _ _) (sI_k _ _ _ _) (by rw [sI_s, if_neg (by decide), sI_s, if_neg (by decide)]; exact h3) (fun q => by omega)
        rw [sI_same (s := t) (o := 101) (k := 8) rfl] at q4 q6
        refine ⟨Q, s', t', by omega, q2, fun K f hf => ?_, fun K f hf => ?_, ((fr_sI (by decide)).trans (fr_sI (by decide))).trans q5, (fr_sI (by decide)).trans q6, q7, q8, q9, fun _ _ _ => by omega⟩
        · obtain ⟨f', rfl⟩ : ∃ f', f = f' + 1 := ⟨f - 1, by omega⟩
          rw [lhs]; exact q3 K f' (by omega)
        · obtain ⟨f', rfl⟩ : ∃ f', f = f' + 1 := ⟨f - 1, by omega⟩
          simp only [f_X12_nextToken_l224, f_X12_nextToken_l224b, h2, sg, bnd_t, x2, if_neg n48, if_neg n57, h3, sub, if_pos n4, f_X12_nextToken_j286, I_p1, ltb_t]
          exact q4 K f' (by omega)
end TOK
