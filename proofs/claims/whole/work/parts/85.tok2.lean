/-! The letters of a word -/
theorem kf_snoc (b : Nat) (l : List Nat) (x : Nat) : kf b (l ++ [x]) = kf b l * b + x := by
  unfold kf
  rw [List.foldl_append]
  rfl
theorem J_mulc (k b : Nat) : Int64.ofNat k * Int64.ofNat b = Int64.ofNat (k * b) := (Int64.ofNat_mul k b).symm
section TOK2
variable {L : Nat} {s t : HS}
theorem r_letters {B : Nat} : ∀ e P, P + e = L → B ≤ P → ∀ s t, CH L s t → s.1 36 3 = I P → t.1 101 4 = I P → t.1 101 5 = I B → (P - B ≤ 8 → ∃ l : List Nat, (∀ x ∈ l, 1 ≤ x ∧ x ≤ 26) ∧ l.length = P - B ∧ s.2.1 36 5 = Int64.ofNat (kf 32 l) ∧ t.2.1 101 7 = Int64.ofNat (kf 27 l)) → ∃ Q s' t', P ≤ Q ∧ Q ≤ L ∧ (∀ K f, e < f → f_X8_stepWord_l0 K f s = K s') ∧ (∀ K f, e < f → f_X12_nextToken_l109 K f t = K t') ∧ Fr [(36, 4), (36, 6)] s s' ∧ Fr [(101, 5), (101, 8)] t t' ∧ s'.1 36 3 = I Q ∧ t'.1 101 4 = I Q ∧ (Q - B ≤ 8 → ∃ l : List Nat, (∀ x ∈ l, 1 ≤ x ∧ x ≤ 26) ∧ l.length = Q - B ∧ s'.2.1 36 5 = Int64.ofNat (kf 32 l) ∧ t'.2.1 101 7 = Int64.ofNat (kf 27 l)) ∧ (P < L → ¬ t.1 102 P < 97 → ¬ 122 < t.1 102 P → P < Q) := by
  intro e
  induction e with
  | zero =>
    intro P hP hB s t C h1 h2 h3 h4
    have hP : P = L := by omega
    subst hP
    obtain ⟨c1, c2, c3, c4⟩ := C
    refine ⟨P, s, t, Nat.le_refl _, Nat.le_refl _, fun K f hf => ?_, fun K f hf => ?_, Fr.refl, Fr.refl, h1, h2, h4, fun q => absurd q (by omega)⟩
    · obtain ⟨f', rfl⟩ : ∃ f', f = f' + 1 := ⟨f - 1, by omega⟩
      simp only [f_X8_stepWord_l0, f_X8_stepWord_l0b, c2, h1, if_pos (Int32.le_refl _)]
    · obtain ⟨f', rfl⟩ : ∃ f', f = f' + 1 := ⟨f - 1, by omega⟩
      simp only [f_X12_nextToken_l109, f_X12_nextToken_l109b, f_X12_signAt, c3, h2, if_pos (Int32.le_refl _), bnd_t]
      exact if_pos (by decide)
  | succ e ih =>
    intro P hP hB s t C h1 h2 h3 h4
    obtain ⟨c1, c2, c3, c4⟩ := id C
    have np : ¬ I L ≤ I P := by rw [I_le (by omega) (by omega)]; omega
    have ip : inb (I P) 1000 = true := inb_t (by omega) (by omega)
    have kp : (I P).toNatClampNeg = P := I_nat (by omega)
    obtain ⟨ch, ch0, ch1⟩ := c4 P (by omega)
    have i97 : (97 : Int32).toInt = 97 := by decide
    have i122 : (122 : Int32).toInt = 122 := by decide
    have sg : f_X12_signAt (I P) t = some (t.1 102 P) := by
      unfold f_X12_signAt
      rw [c3, if_neg np, ip, gd_t, kp]
    by_cases z1 : t.1 102 P < 97
    · refine ⟨P, s, t, Nat.le_refl _, by omega, fun K f hf => ?_, fun K f hf => ?_, Fr.refl, Fr.refl, h1, h2, h4, fun _ q => absurd z1 q⟩
      · obtain ⟨f', rfl⟩ : ∃ f', f = f' + 1 := ⟨f - 1, by omega⟩
        simp only [f_X8_stepWord_l0, f_X8_stepWord_l0b, c2, h1, if_neg np, ip, gd_t, kp, ch, if_pos z1]
      · obtain ⟨f', rfl⟩ : ∃ f', f = f' + 1 := ⟨f - 1, by omega⟩
        simp only [f_X12_nextToken_l109, f_X12_nextToken_l109b, h2, sg, bnd_t, if_pos z1]
    by_cases z2 : 122 < t.1 102 P
    · refine ⟨P, s, t, Nat.le_refl _, by omega, fun K f hf => ?_, fun K f hf => ?_, Fr.refl, Fr.refl, h1, h2, h4, fun _ _ q => absurd z2 q⟩
      · obtain ⟨f', rfl⟩ : ∃ f', f = f' + 1 := ⟨f - 1, by omega⟩
        simp only [f_X8_stepWord_l0, f_X8_stepWord_l0b, c2, h1, if_neg np, ip, gd_t, kp, ch, if_neg z1, if_pos z2]
      · obtain ⟨f', rfl⟩ : ∃ f', f = f' + 1 := ⟨f - 1, by omega⟩
        simp only [f_X12_nextToken_l109, f_X12_nextToken_l109b, h2, sg, bnd_t, if_neg z1, if_pos z2]
    · -- a letter
      rw [Int32.lt_iff_toInt_lt] at z1 z2
      obtain ⟨x, x1, x2⟩ : ∃ x, (1 ≤ x ∧ x ≤ 26) ∧ t.1 102 P = I (96 + x) := ⟨(t.1 102 P).toInt.toNat - 96, by omega, by rw [show 96 + ((t.1 102 P).toInt.toNat - 96) = (t.1 102 P).toInt.toNat from by omega]; exact I_of ch0⟩
      have n97 : ¬ I (96 + x) < 97 := by rw [← x2, Int32.lt_iff_toInt_lt]; exact z1
      have n122 : ¬ 122 < I (96 + x) := by rw [← x2, Int32.lt_iff_toInt_lt]; exact z2
      have C' : ∀ y y' : Int64, CH L (sI (sL s 36 5 y) 36 3 (I (P + 1))) (sI (sL t 101 7 y') 101 4 (I (P + 1))) := fun y y' => C.fr (A := [(36, 4), (36, 6)]) (B := [(101, 5), (101, 8)]) ((fr_sL (by decide)).trans (fr_sI (by decide))) ((fr_sL (by decide)).trans (fr_sI (by decide))) (by decide) (by decide)
      have sub96 : (((I (96 + x) - (97 : Int32)) + 1 : Int32).toInt64) = J x := by
        rw [show (97 : Int32) = I 97 from litI 97, I_sub (by omega), I_succ, show 96 + x - 97 + 1 = x from by omega, I_J (by omega)]
      have k36 : ∀ (u : HS) y, (sL u 36 5 y).1 36 3 = u.1 36 3 := fun u y => rfl
      have k101 : ∀ (u : HS) y, (sL u 101 7 y).1 101 4 = u.1 101 4 := fun u y => rfl
      have lhs : ∀ K f, f_X8_stepWord_l0 K (f + 1) s = f_X8_stepWord_l0 K f (sI (sL s 36 5 ((s.2.1 36 5) * 32 + J x)) 36 3 (I (P + 1))) := fun K f => by
        simp only [f_X8_stepWord_l0, f_X8_stepWord_l0b, c2, h1, if_neg np, ip, gd_t, kp, ch, x2, if_neg n97, if_neg n122, sub96, ltb_t]
        rw [k36, h1, I_p1]
      have lg : ∀ (u : HS) (o k k' : Nat) y v, (sI (sL u o k y) o k' v).2.1 o k = y := fun u o k k' y v => by
        show up2 u.2.1 o k y o k = y
        unfold up2
        rw [if_pos rfl, if_pos rfl]
      have sub : I P - I B = I (P - B) := I_sub hB
      by_cases z : P - B < 8
      · obtain ⟨l, l1, l2, l3, l4⟩ := h4 (by omega)
        have n8 : ¬ (8 : Int32) ≤ I (P - B) := by rw [show (8 : Int32) = I 8 from litI 8, I_le (by omega) (by omega)]; omega
        have m32 : Int64.ofNat (kf 32 l) * (32 : Int64) + J x = Int64.ofNat (kf 32 (l ++ [x])) := by
          rw [kf_snoc, Int64.ofNat_add, Int64.ofNat_mul]; rfl
        have m27 : Int64.ofNat (kf 27 l) * (27 : Int64) + (I (96 + x)).toInt64 - 96 = Int64.ofNat (kf 27 (l ++ [x])) := by
          rw [kf_snoc, show Int64.ofNat (kf 27 l) = J (kf 27 l) from rfl, show (27 : Int64) = J 27 from rfl, show (96 : Int64) = J 96 from rfl, I_J (by omega), J_mul, J_add, J_sub (by omega)]
          exact congrArg J (by omega)
        obtain ⟨Q, s', t', q1, q2, q3, q4, q5, q6, q7, q8, q9, -⟩ := ih (P + 1) (by omega) (by omega) (sI (sL s 36 5 (Int64.ofNat (kf 32 (l ++ [x])))) 36 3 (I (P + 1))) (sI (sL t 101 7 (Int64.ofNat (kf 27 (l ++ [x])))) 101 4 (I (P + 1))) (C' _ _) (sI_k _ _ _ _) (sI_k _ _ _ _) (by rw [sI_s, if_neg (by decide)]; exact h3) (fun _ => ⟨l ++ [x], fun y hy => by
          rcases List.mem_append.mp hy with hy | hy
          · exact l1 y hy
          · rw [List.mem_singleton.mp hy]; exact x1, by rw [List.length_append, l2]; simp; omega, lg _ _ _ _ _ _, lg _ _ _ _ _ _⟩)
        refine ⟨Q, s', t', by omega, q2, fun K f hf => ?_, fun K f hf => ?_, ((fr_sL (by decide)).trans (fr_sI (by decide))).trans q5, ((fr_sL (by decide)).trans (fr_sI (by decide))).trans q6, q7, q8, q9, fun _ _ _ => by omega⟩
        · obtain ⟨f', rfl⟩ : ∃ f', f = f' + 1 := ⟨f - 1, by omega⟩
          rw [lhs, l3, m32]; exact q3 K f' (by omega)
        · obtain ⟨f', rfl⟩ : ∃ f', f = f' + 1 := ⟨f - 1, by omega⟩
          simp only [f_X12_nextToken_l109, f_X12_nextToken_l109b, h2, sg, bnd_t, x2, if_neg n97, if_neg n122, h3, sub, if_neg n8, l4, m27, ltb_t, f_X12_nextToken_j175]
          rw [k101, h2, I_p1]
          exact q4 K f' (by omega)
      · have n8 : (8 : Int32) ≤ I (P - B) := by rw [show (8 : Int32) = I 8 from litI 8, I_le (by omega) (by omega)]; omega
        obtain ⟨Q, s', t', q1, q2, q3, q4, q5, q6, q7, q8, q9, -⟩ := ih (P + 1) (by omega) (by omega) (sI (sL s 36 5 ((s.2.1 36 5) * 32 + J x)) 36 3 (I (P + 1))) (sI t 101 4 (I (P + 1))) (C.fr (A := [(36, 4), (36, 6)]) (B := [(101, 5), (101, 8)]) ((fr_sL (by decide)).trans (fr_sI (by decide))) (fr_sI (by decide)) (by decide) (by decide)) (sI_k _ _ _ _) (sI_k _ _ _ _) (by rw [sI_s, if_neg (by decide)]; exact h3) (fun q => by omega)
        refine ⟨Q, s', t', by omega, q2, fun K f hf => ?_, fun K f hf => ?_, ((fr_sL (by decide)).trans (fr_sI (by decide))).trans q5, (fr_sI (by decide)).trans q6, q7, q8, q9, fun _ _ _ => by omega⟩
        · obtain ⟨f', rfl⟩ : ∃ f', f = f' + 1 := ⟨f - 1, by omega⟩
          rw [lhs]; exact q3 K f' (by omega)
        · obtain ⟨f', rfl⟩ : ∃ f', f = f' + 1 := ⟨f - 1, by omega⟩
          simp only [f_X12_nextToken_l109, f_X12_nextToken_l109b, h2, sg, bnd_t, x2, if_neg n97, if_neg n122, h3, sub, if_pos n8, f_X12_nextToken_j175, I_p1, ltb_t]
          exact q4 K f' (by omega)
end TOK2
