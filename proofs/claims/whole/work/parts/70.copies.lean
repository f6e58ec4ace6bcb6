/-! Whole States are copied, and rows of the days -/
theorem cpyN {a b : Nat → Int32} {k n : Nat} (hn : n < 2147483648) : va_cpy a b (0 : Int32).toNatClampNeg (0 : Int32).toNatClampNeg (I n).toNatClampNeg k = if k < n then a k else b k := by
  rw [I_nat hn, show (0 : Int32).toNatClampNeg = 0 from I_nat (n := 0) (by omega)]
  unfold va_cpy
  simp
theorem okX7_d {a a' : Nat} (h : okX7 a = true) (h' : okX7 a' = true) (ne : a ≠ a') : ∀ j, j < 5 → ∀ k, k < 5 → a + j ≠ a' + k := by
  rcases okX7_c h with rfl | rfl | rfl | rfl | rfl | rfl <;> rcases okX7_c h' with rfl | rfl | rfl | rfl | rfl | rfl <;> first | exact absurd rfl ne | (intro j hj k hk; omega)
theorem okX7_r {a : Nat} (h : okX7 a = true) : Rf a 4 = a + 1 ∧ Rf a 5 = a + 2 ∧ Rf a 7 = a + 3 ∧ Rf a 9 = a + 4 ∧ (sk (a + 2)).2 = 120 := by
  rcases okX7_c h with rfl | rfl | rfl | rfl | rfl | rfl <;> decide
def L7A (a : Nat) : List (Nat × Nat) := [(a, 1), (a, 2), (a, 3), (a, 4), (a, 7), (a, 9), (a, 11), (a + 1, 0), (a + 2, 0), (a + 3, 0), (a + 4, 0)]
theorem r_copyAll {a a' m : Nat} {s : HS} (h : okX7 a = true) (h' : okX7 a' = true) (ne : a ≠ a') (hm : m ≤ 40) (e6 : s.1 a 6 = I m) :
    ∃ s', f_X7_copyAll a' a s = some s' ∧ Fr (L7A a') s s' ∧ CPs a a' s s' ∧ (∀ k, k < 4 → s'.1 a' k = s.1 a k) ∧ (∀ i, i < 5 → s'.1 (a' + 1) i = s.1 (a + 1) i) := by
  obtain ⟨r1, r2, r3, r4, r5⟩ := okX7_r h
  obtain ⟨q1, q2, q3, q4, q5⟩ := okX7_r h'
  have D := okX7_d h h' ne
  have n0 : ∀ k, k < 5 → a ≠ a' + k := fun k hk => D 0 (by omega) k hk
  have n00 : a ≠ a' := ne
  have c5 : cpok 0 0 5 5 5 = true := by decide
  have c20 : cpok 0 0 20 20 20 = true := by decide
  have c12 : cpok 0 0 12 12 12 = true := by decide
  have cm : cpok 0 0 (I m * 3) 120 120 = true := by
    rw [mul3]
    unfold cpok
    have e0 : (0 : Int32).toNatClampNeg = 0 := I_nat (n := 0) (by omega)
    rw [I_nat (by omega), e0]
    simp only [Bool.and_eq_true, decide_eq_true_eq]
    exact ⟨by decide, by decide, by rw [I0, I_lt (by omega) (by omega)]; omega, by omega, by omega⟩
  -- hand
  have H : ∃ s1, f_X7_copyHand a' a s = some s1 ∧ Fr (L7A a') s s1 ∧ (∀ k, k < 4 → s1.1 a' k = s.1 a k) ∧ (∀ i, i < 5 → s1.1 (a' + 1) i = s.1 (a + 1) i) := by
    refine ⟨sA (sI (sI (sI (sI s a' 0 (s.1 a 0)) a' 1 (s.1 a 1)) a' 2 (s.1 a 2)) a' 3 (s.1 a 3)) (a' + 1) (va_cpy (s.1 (a + 1)) (s.1 (a' + 1)) (0 : Int32).toNatClampNeg (0 : Int32).toNatClampNeg (I 5).toNatClampNeg), ?_, ?_, fun k hk => ?_, fun i hi => ?_⟩
    · unfold f_X7_copyHand
      have na : ∀ (u : HS) k x, (sI u a' k x).1 a = u.1 a := fun u k x => sI_n _ _ _ n00
      have na1 : ∀ (u : HS) k x, (sI u a' k x).1 (a + 1) = u.1 (a + 1) := fun u k x => sI_n _ _ _ (D 1 (by omega) 0 (by omega))
      have na2 : ∀ (u : HS) k x, (sI u a' k x).1 (a' + 1) = u.1 (a' + 1) := fun u k x => sI_n _ _ _ (by omega)
      simp only [ltb_t, c5, gd_t, r1, q1, na, na1, na2]
      rfl
    · exact (fr_sI (by simp [wm, L7A])).trans ((fr_sI (by simp [wm, L7A])).trans ((fr_sI (by simp [wm, L7A])).trans ((fr_sI (by simp [wm, L7A])).trans (fr_sA (by simp [L7A])))))
    · rw [sA_n _ _ _ (by omega)]
      have : k = 0 ∨ k = 1 ∨ k = 2 ∨ k = 3 := by omega
      rcases this with rfl | rfl | rfl | rfl <;> simp only [sI_at, if_true, Nat.reduceEqDiff, if_false]
    · rw [sA_k, cpyN (by omega), if_pos hi]
  obtain ⟨s1, h1, h2, h3, h4⟩ := H
  have oA : ∀ j, j < 5 → s1.1 (a + j) = s.1 (a + j) := fun j hj => h2.o (by
    have d := D j hj
    have d0 := d 0 (by omega); have d1 := d 1 (by omega); have d2 := d 2 (by omega); have d3 := d 3 (by omega); have d4 := d 4 (by omega)
    simp [wo, L7A]; omega)
  have oA0 : s1.1 a = s.1 a := oA 0 (by omega)
  refine ⟨sI (sA (sI (sA (sI (sA s1 (a' + 2) (va_cpy (s.1 (a + 2)) (s1.1 (a' + 2)) (0 : Int32).toNatClampNeg (0 : Int32).toNatClampNeg (I (3 * m)).toNatClampNeg)) a' 6 (I m)) (a' + 3) (va_cpy (s.1 (a + 3)) (s1.1 (a' + 3)) (0 : Int32).toNatClampNeg (0 : Int32).toNatClampNeg (I 20).toNatClampNeg)) a' 8 (s.1 a 8)) (a' + 4) (va_cpy (s.1 (a + 4)) (s1.1 (a' + 4)) (0 : Int32).toNatClampNeg (0 : Int32).toNatClampNeg (I 12).toNatClampNeg)) a' 10 (s.1 a 10), ?_, ?_, ?_, fun k hk => ?_, fun i hi => ?_⟩
  · have na : ∀ (u : HS) k x, (sI u a' k x).1 a = u.1 a := fun u k x => sI_n _ _ _ n00
    have naA : ∀ (u : HS) o f, (o = a' + 2 ∨ o = a' + 3 ∨ o = a' + 4) → (sA u o f).1 a = u.1 a := fun u o f ho => sA_n _ _ _ (by have := n0 2 (by omega); have := n0 3 (by omega); have := n0 4 (by omega); omega)
    unfold f_X7_copyAll f_X7_takeLines
    rw [h1, bnd_t, oA0, e6, r2, r3, r4, q2, q3, q4, r5, cm, gd_t, ltb_t, ltb_t, bnd_t, c20, gd_t, ltb_t, ltb_t, c12, gd_t, ltb_t, ltb_t]
    have b3 : ∀ (u : HS) k x, (sI u a' k x).1 (a + 3) = u.1 (a + 3) := fun u k x => sI_n _ _ _ (by have := D 3 (by omega) 0 (by omega); omega)
    have b4 : ∀ (u : HS) k x, (sI u a' k x).1 (a + 4) = u.1 (a + 4) := fun u k x => sI_n _ _ _ (by have := D 4 (by omega) 0 (by omega); omega)
    have b5 : ∀ (u : HS) f, (sA u (a' + 2) f).1 (a + 3) = u.1 (a + 3) := fun u f => sA_n _ _ _ (D 3 (by omega) 2 (by omega))
    have b6 : ∀ (u : HS) f, (sA u (a' + 2) f).1 (a + 4) = u.1 (a + 4) := fun u f => sA_n _ _ _ (D 4 (by omega) 2 (by omega))
    have b7 : ∀ (u : HS) f, (sA u (a' + 3) f).1 (a + 4) = u.1 (a + 4) := fun u f => sA_n _ _ _ (D 4 (by omega) 3 (by omega))
    have b8 : ∀ (u : HS) k x, (sI u a' k x).1 (a' + 3) = u.1 (a' + 3) := fun u k x => sI_n _ _ _ (by omega)
    have b9 : ∀ (u : HS) k x, (sI u a' k x).1 (a' + 4) = u.1 (a' + 4) := fun u k x => sI_n _ _ _ (by omega)
    have c1 : ∀ (u : HS) f, (sA u (a' + 2) f).1 (a' + 3) = u.1 (a' + 3) := fun u f => sA_n _ _ _ (by omega)
    have c2 : ∀ (u : HS) f, (sA u (a' + 2) f).1 (a' + 4) = u.1 (a' + 4) := fun u f => sA_n _ _ _ (by omega)
    have c3 : ∀ (u : HS) f, (sA u (a' + 3) f).1 (a' + 4) = u.1 (a' + 4) := fun u f => sA_n _ _ _ (by omega)
    have d2 : ∀ (u : HS) f, (sA u (a' + 2) f).1 a = u.1 a := fun u f => naA u _ f (Or.inl rfl)
    have d3 : ∀ (u : HS) f, (sA u (a' + 3) f).1 a = u.1 a := fun u f => naA u _ f (Or.inr (Or.inl rfl))
    have d4 : ∀ (u : HS) f, (sA u (a' + 4) f).1 a = u.1 a := fun u f => naA u _ f (Or.inr (Or.inr rfl))
    simp only [mul3, na, d2, d3, d4, b3, b4, b5, b6, b7, b8, b9, c1, c2, c3, oA0, oA 2 (by omega), oA 3 (by omega), oA 4 (by omega)]
    rfl
  · exact h2.trans ((fr_sA (by simp [L7A])).trans ((fr_sI (by simp [wm, L7A])).trans ((fr_sA (by simp [L7A])).trans ((fr_sI (by simp [wm, L7A])).trans ((fr_sA (by simp [L7A])).trans (fr_sI (by simp [wm, L7A])))))))
  · refine ⟨⟨?_, ?_, ?_⟩, fun m' hm' hme i hi => ?_, fun i hi => ?_, fun i hi => ?_⟩
    · rw [sI_s, if_neg (by decide), sA_n _ _ _ (by omega), sI_s, if_neg (by decide), sA_n _ _ _ (by omega), sI_k, e6]
    · rw [sI_s, if_neg (by decide), sA_n _ _ _ (by omega), sI_k]
    · rw [sI_k]
    · have : m' = m := by rw [e6] at hme; exact ((I_inj (by omega) (by omega)).mp hme).symm
      subst this
      rw [sI_n _ _ _ (by omega), sA_n _ _ _ (by omega), sI_n _ _ _ (by omega), sA_n _ _ _ (by omega), sI_n _ _ _ (by omega), sA_k, cpyN (by omega), if_pos hi]
    · rw [sI_n _ _ _ (by omega), sA_n _ _ _ (by omega), sI_n _ _ _ (by omega), sA_k, cpyN (by omega), if_pos hi]
    · rw [sI_n _ _ _ (by omega), sA_k, cpyN (by omega), if_pos hi]
  · rw [sI_s, if_neg (by omega), sA_n _ _ _ (by omega), sI_s, if_neg (by omega), sA_n _ _ _ (by omega), sI_s, if_neg (by omega), sA_n _ _ _ (by omega)]
    exact h3 k hk
  · rw [sI_n _ _ _ (by omega), sA_n _ _ _ (by omega), sI_n _ _ _ (by omega), sA_n _ _ _ (by omega), sI_n _ _ _ (by omega), sA_n _ _ _ (by omega)]
    exact h4 i hi
section ROWS
variable {t : HS}
theorem i40 {r k : Nat} : (40 : Int32) * I r + I k = I (40 * r + k) := by rw [show (40 : Int32) = I 40 from litI 40, I_mul, I_add]
theorem i10 {r k : Nat} : (10 : Int32) * I r + I k = I (10 * r + k) := by rw [show (10 : Int32) = I 10 from litI 10, I_mul, I_add]
theorem i6 {r k : Nat} : (6 : Int32) * I r + I k = I (6 * r + k) := by rw [show (6 : Int32) = I 6 from litI 6, I_mul, I_add]
/-- rows r and r' of an object with w to a row: copied, and else as it was -/
def CWR (o w r r' : Nat) (t t' : HS) : Prop := (∀ i, i < w → t'.1 o (w * r' + i) = t.1 o (w * r + i)) ∧ ∀ j, (j < w * r' ∨ w * r' + w ≤ j) → t'.1 o j = t.1 o j
theorem r_laysLines {r r' : Nat} (h1 : r < 6) (h2 : r' < 6) (ne : r ≠ r') : ∃ t', f_X12_laysLines (I r) (I r') t = some t' ∧ Fr [(135, 0), (136, 0), (137, 0), (138, 0)] t t' ∧ CWR 135 1 r r' t t' ∧ CWR 136 40 r r' t t' ∧ CWR 137 40 r r' t t' ∧ CWR 138 40 r r' t t' := by
  have key : ∀ e k, k + e = 40 → ∀ t1, Fr [(135, 0), (136, 0), (137, 0), (138, 0)] t t1 → t1.1 135 = (sI t 135 r' (t.1 135 r)).1 135 → (∀ o, o = 136 ∨ o = 137 ∨ o = 138 → (∀ i, i < k → t1.1 o (40 * r' + i) = t.1 o (40 * r + i)) ∧ ∀ j, (j < 40 * r' ∨ 40 * r' + k ≤ j) → t1.1 o j = t.1 o j) → ∃ t', (∀ f, e < f → f_X12_laysLines_l14 (I r) (I r') f (I k) t1 = some t') ∧ Fr [(135, 0), (136, 0), (137, 0), (138, 0)] t t' ∧ t'.1 135 = (sI t 135 r' (t.1 135 r)).1 135 ∧ (∀ o, o = 136 ∨ o = 137 ∨ o = 138 → (∀ i, i < 40 → t'.1 o (40 * r' + i) = t.1 o (40 * r + i)) ∧ ∀ j, (j < 40 * r' ∨ 40 * r' + 40 ≤ j) → t'.1 o j = t.1 o j) := by
    intro e
    induction e with
    | zero =>
      intro k hk t1 f1 g0 g1
      have hk : k = 40 := by omega
      subst hk
      refine ⟨t1, fun f hf => ?_, f1, g0, g1⟩
      obtain ⟨f', rfl⟩ : ∃ f', f = f' + 1 := ⟨f - 1, by omega⟩
      simp only [f_X12_laysLines_l14, f_X12_laysLines_l14b]
      exact if_pos (by decide)
    | succ e ih =>
      intro k hk t1 f1 g0 g1
      have n40 : ¬ (40 : Int32) ≤ I k := by rw [show (40 : Int32) = I 40 from litI 40, I_le (by omega) (by omega)]; omega
      have j1 : inb (I (40 * r + k)) 240 = true := inb_t (by omega) (by omega)
      have j2 : inb (I (40 * r' + k)) 240 = true := inb_t (by omega) (by omega)
      have k1 : (I (40 * r + k)).toNatClampNeg = 40 * r + k := I_nat (by omega)
      have k2 : (I (40 * r' + k)).toNatClampNeg = 40 * r' + k := I_nat (by omega)
      have src : ∀ o, o = 136 ∨ o = 137 ∨ o = 138 → t1.1 o (40 * r + k) = t.1 o (40 * r + k) := fun o ho => (g1 o ho).2 _ (by omega)
      obtain ⟨t', h3, h4, h5, h6⟩ := ih (k + 1) (by omega) (sI (sI (sI t1 136 (40 * r' + k) (t.1 136 (40 * r + k))) 137 (40 * r' + k) (t.1 137 (40 * r + k))) 138 (40 * r' + k) (t.1 138 (40 * r + k))) (f1.trans ((fr_sI (by simp [wm])).trans ((fr_sI (by simp [wm])).trans (fr_sI (by simp [wm]))))) (by rw [sI_n _ _ _ (by decide), sI_n _ _ _ (by decide), sI_n _ _ _ (by decide), g0]) (fun o ho => by
        have ee : ∀ j, (sI (sI (sI t1 136 (40 * r' + k) (t.1 136 (40 * r + k))) 137 (40 * r' + k) (t.1 137 (40 * r + k))) 138 (40 * r' + k) (t.1 138 (40 * r + k))).1 o j = if j = 40 * r' + k then t.1 o (40 * r + k) else t1.1 o j := fun j => by
          rcases ho with rfl | rfl | rfl <;> simp only [sI_at, Nat.reduceEqDiff, if_true, if_false]
        refine ⟨fun i hi => ?_, fun j hj => ?_⟩
        · rw [ee]
          by_cases z : i = k
          · subst z; rw [if_pos (Eq.refl _)]
          · rw [if_neg (by omega)]; exact (g1 o ho).1 i (by omega)
        · rw [ee, if_neg (by omega)]; exact (g1 o ho).2 j (by omega))
      refine ⟨t', fun f hf => ?_, h4, h5, h6⟩
      obtain ⟨f', rfl⟩ : ∃ f', f = f' + 1 := ⟨f - 1, by omega⟩
      simp only [f_X12_laysLines_l14, f_X12_laysLines_l14b, if_neg n40, i40, j1, j2, gd_t, k1, k2, ltb_t, I_succ]
      rw [sI_n _ _ _ (by decide), sI_n _ _ _ (by decide), sI_n _ _ _ (by decide), src 136 (Or.inl rfl), src 137 (Or.inr (Or.inl rfl)), src 138 (Or.inr (Or.inr rfl))]
      exact h3 f' (by omega)
  have a1 : inb (I r) 6 = true := inb_t (by omega) (by omega)
  have a2 : inb (I r') 6 = true := inb_t (by omega) (by omega)
  have a3 : (I r).toNatClampNeg = r := I_nat (by omega)
  have a4 : (I r').toNatClampNeg = r' := I_nat (by omega)
  obtain ⟨t', h3, h4, h5, h6⟩ := key 40 0 (by omega) (sI t 135 r' (t.1 135 r)) (fr_sI (by simp [wm])) rfl (fun o ho => ⟨fun i hi => by omega, fun j _ => by rw [sI_n _ _ _ (by omega)]⟩)
  have h3 := h3 FU (FU_lt (by omega))
  rw [I_e0] at h3
  refine ⟨t', ?_, h4, ⟨fun i hi => ?_, fun j hj => ?_⟩, h6 136 (Or.inl rfl), h6 137 (Or.inr (Or.inl rfl)), h6 138 (Or.inr (Or.inr rfl))⟩
  · unfold f_X12_laysLines
    rw [a1, a2, gd_t, gd_t, a3, a4, ltb_t]; exact h3
  · rw [h5, sI_s, if_pos (by omega), show 1 * r + i = r from by omega]
  · rw [h5, sI_s, if_neg (by omega)]
theorem r_told1 {r r' : Nat} (h1 : r < 5) (h2 : r' < 5) (ne : r ≠ r') : ∀ e k, k + e = 10 → ∀ t1, Fr [(140, 0), (141, 0)] t t1 → (∀ o, o = 140 ∨ o = 141 → (∀ i, i < k → t1.1 o (10 * r' + i) = t.1 o (10 * r + i)) ∧ ∀ j, (j < 10 * r' ∨ 10 * r' + k ≤ j) → t1.1 o j = t.1 o j) → ∃ t', (∀ K f, e < f → f_X12_laysTold_l26 (I r) (I r') K f (I k) t1 = K t') ∧ Fr [(140, 0), (141, 0)] t t' ∧ (∀ o, o = 140 ∨ o = 141 → (∀ i, i < 10 → t'.1 o (10 * r' + i) = t.1 o (10 * r + i)) ∧ ∀ j, (j < 10 * r' ∨ 10 * r' + 10 ≤ j) → t'.1 o j = t.1 o j) := by
  intro e
  induction e with
  | zero =>
    intro k hk t1 f1 g1
    have hk : k = 10 := by omega
    subst hk
    refine ⟨t1, fun K f hf => ?_, f1, g1⟩
    obtain ⟨f', rfl⟩ : ∃ f', f = f' + 1 := ⟨f - 1, by omega⟩
    simp only [f_X12_laysTold_l26, f_X12_laysTold_l26b]
    exact if_pos (by decide)
  | succ e ih =>
    intro k hk t1 f1 g1
    have n40 : ¬ (10 : Int32) ≤ I k := by rw [show (10 : Int32) = I 10 from litI 10, I_le (by omega) (by omega)]; omega
    have j1 : inb (I (10 * r + k)) 50 = true := inb_t (by omega) (by omega)
    have j2 : inb (I (10 * r' + k)) 50 = true := inb_t (by omega) (by omega)
    have k1 : (I (10 * r + k)).toNatClampNeg = 10 * r + k := I_nat (by omega)
    have k2 : (I (10 * r' + k)).toNatClampNeg = 10 * r' + k := I_nat (by omega)
    have src : ∀ o, o = 140 ∨ o = 141 → t1.1 o (10 * r + k) = t.1 o (10 * r + k) := fun o ho => (g1 o ho).2 _ (by omega)
    obtain ⟨t', h3, h4, h6⟩ := ih (k + 1) (by omega) (sI (sI t1 140 (10 * r' + k) (t.1 140 (10 * r + k))) 141 (10 * r' + k) (t.1 141 (10 * r + k))) (f1.trans ((fr_sI (by simp [wm])).trans (fr_sI (by simp [wm])))) (fun o ho => by
      have ee : ∀ j, (sI (sI t1 140 (10 * r' + k) (t.1 140 (10 * r + k))) 141 (10 * r' + k) (t.1 141 (10 * r + k))).1 o j = if j = 10 * r' + k then t.1 o (10 * r + k) else t1.1 o j := fun j => by
        rcases ho with rfl | rfl <;> simp only [sI_at, Nat.reduceEqDiff, if_true, if_false]
      refine ⟨fun i hi => ?_, fun j hj => ?_⟩
      · rw [ee]
        by_cases z : i = k
        · subst z; rw [if_pos (Eq.refl _)]
        · rw [if_neg (by omega)]; exact (g1 o ho).1 i (by omega)
      · rw [ee, if_neg (by omega)]; exact (g1 o ho).2 j (by omega))
    refine ⟨t', fun K f hf => ?_, h4, h6⟩
    obtain ⟨f', rfl⟩ : ∃ f', f = f' + 1 := ⟨f - 1, by omega⟩
    simp only [f_X12_laysTold_l26, f_X12_laysTold_l26b, if_neg n40, i10, j1, j2, gd_t, k1, k2, ltb_t, I_succ]
    rw [sI_n _ _ _ (by decide), src 140 (Or.inl rfl), src 141 (Or.inr rfl)]
    exact h3 K f' (by omega)
theorem r_told2 {r r' : Nat} (h1 : r < 5) (h2 : r' < 5) (ne : r ≠ r') : ∀ e k, k + e = 6 → ∀ t1, Fr [(143, 0), (144, 0)] t t1 → (∀ o, o = 143 ∨ o = 144 → (∀ i, i < k → t1.1 o (6 * r' + i) = t.1 o (6 * r + i)) ∧ ∀ j, (j < 6 * r' ∨ 6 * r' + k ≤ j) → t1.1 o j = t.1 o j) → ∃ t', (∀ f, e < f → f_X12_laysTold_l84 (I r) (I r') f (I k) t1 = some t') ∧ Fr [(143, 0), (144, 0)] t t' ∧ (∀ o, o = 143 ∨ o = 144 → (∀ i, i < 6 → t'.1 o (6 * r' + i) = t.1 o (6 * r + i)) ∧ ∀ j, (j < 6 * r' ∨ 6 * r' + 6 ≤ j) → t'.1 o j = t.1 o j) := by
  intro e
  induction e with
  | zero =>
    intro k hk t1 f1 g1
    have hk : k = 6 := by omega
    subst hk
    refine ⟨t1, fun f hf => ?_, f1, g1⟩
    obtain ⟨f', rfl⟩ : ∃ f', f = f' + 1 := ⟨f - 1, by omega⟩
    simp only [f_X12_laysTold_l84, f_X12_laysTold_l84b]
    exact if_pos (by decide)
  | succ e ih =>
    intro k hk t1 f1 g1
    have n40 : ¬ (6 : Int32) ≤ I k := by rw [show (6 : Int32) = I 6 from litI 6, I_le (by omega) (by omega)]; omega
    have j1 : inb (I (6 * r + k)) 30 = true := inb_t (by omega) (by omega)
    have j2 : inb (I (6 * r' + k)) 30 = true := inb_t (by omega) (by omega)
    have k1 : (I (6 * r + k)).toNatClampNeg = 6 * r + k := I_nat (by omega)
    have k2 : (I (6 * r' + k)).toNatClampNeg = 6 * r' + k := I_nat (by omega)
    have src : ∀ o, o = 143 ∨ o = 144 → t1.1 o (6 * r + k) = t.1 o (6 * r + k) := fun o ho => (g1 o ho).2 _ (by omega)
    obtain ⟨t', h3, h4, h6⟩ := ih (k + 1) (by omega) (sI (sI t1 143 (6 * r' + k) (t.1 143 (6 * r + k))) 144 (6 * r' + k) (t.1 144 (6 * r + k))) (f1.trans ((fr_sI (by simp [wm])).trans (fr_sI (by simp [wm])))) (fun o ho => by
      have ee : ∀ j, (sI (sI t1 143 (6 * r' + k) (t.1 143 (6 * r + k))) 144 (6 * r' + k) (t.1 144 (6 * r + k))).1 o j = if j = 6 * r' + k then t.1 o (6 * r + k) else t1.1 o j := fun j => by
        rcases ho with rfl | rfl <;> simp only [sI_at, Nat.reduceEqDiff, if_true, if_false]
      refine ⟨fun i hi => ?_, fun j hj => ?_⟩
      · rw [ee]
        by_cases z : i = k
        · subst z; rw [if_pos (Eq.refl _)]
        · rw [if_neg (by omega)]; exact (g1 o ho).1 i (by omega)
      · rw [ee, if_neg (by omega)]; exact (g1 o ho).2 j (by omega))
    refine ⟨t', fun f hf => ?_, h4, h6⟩
    obtain ⟨f', rfl⟩ : ∃ f', f = f' + 1 := ⟨f - 1, by omega⟩
    simp only [f_X12_laysTold_l84, f_X12_laysTold_l84b, if_neg n40, i6, j1, j2, gd_t, k1, k2, ltb_t, I_succ]
    rw [sI_n _ _ _ (by decide), src 143 (Or.inl rfl), src 144 (Or.inr rfl)]
    exact h3 f' (by omega)
theorem r_laysTold {r r' : Nat} (h1 : r < 5) (h2 : r' < 5) (ne : r ≠ r') : ∃ t', f_X12_laysTold (I r) (I r') t = some t' ∧ Fr [(139, 0), (140, 0), (141, 0), (142, 0), (143, 0), (144, 0)] t t' ∧ CWR 139 1 r r' t t' ∧ CWR 140 10 r r' t t' ∧ CWR 141 10 r r' t t' ∧ CWR 142 1 r r' t t' ∧ CWR 143 6 r r' t t' ∧ CWR 144 6 r r' t t' := by
  have a1 : inb (I r) 5 = true := inb_t (by omega) (by omega)
  have a2 : inb (I r') 5 = true := inb_t (by omega) (by omega)
  have a3 : (I r).toNatClampNeg = r := I_nat (by omega)
  have a4 : (I r').toNatClampNeg = r' := I_nat (by omega)
  obtain ⟨t1, b1, b2, b3⟩ := r_told1 (t := sI (sI t 139 r' (t.1 139 r)) 142 r' (t.1 142 r)) h1 h2 ne 10 0 (by omega) _ Fr.refl (fun o ho => ⟨fun i hi => by omega, fun j _ => rfl⟩)
  obtain ⟨t', c1, c2, c3⟩ := r_told2 (t := t1) h1 h2 ne 6 0 (by omega) _ Fr.refl (fun o ho => ⟨fun i hi => by omega, fun j _ => rfl⟩)
  have b1 := fun K => b1 K FU (FU_lt (by omega))
  have c1 := c1 FU (FU_lt (by omega))
  rw [I_e0] at b1 c1
  have oo : ∀ o, o ≠ 139 → o ≠ 142 → (sI (sI t 139 r' (t.1 139 r)) 142 r' (t.1 142 r)).1 o = t.1 o := fun o ho ho' => by rw [sI_n _ _ _ ho', sI_n _ _ _ ho]
  have w139 : t'.1 139 = (sI t 139 r' (t.1 139 r)).1 139 := by rw [c2.o (by decide), b2.o (by decide), sI_n _ _ _ (by decide)]
  have w142 : t'.1 142 = (sI t 142 r' (t.1 142 r)).1 142 := by
    rw [c2.o (by decide), b2.o (by decide)]
    refine funext fun j => ?_
    rw [sI_s, sI_s, sI_n _ _ _ (by decide)]
  refine ⟨t', ?_, (((fr_sI (by simp [wm])).trans (fr_sI (by simp [wm]))).trans (b2.mono (by decide))).trans (c2.mono (by decide)), ⟨fun i hi => ?_, fun j hj => ?_⟩, ?_, ?_, ⟨fun i hi => ?_, fun j hj => ?_⟩, ?_, ?_⟩
  · unfold f_X12_laysTold
    rw [a1, a2, gd_t, gd_t, a3, a4, ltb_t, gd_t, gd_t, sI_n _ _ _ (by decide), ltb_t, b1, c1]
  · rw [w139, sI_s, if_pos (by omega), show 1 * r + i = r from by omega]
  · rw [w139, sI_s, if_neg (by omega)]
  · unfold CWR
    rw [c2.o (by decide)]
    have := b3 140 (Or.inl rfl)
    rw [oo 140 (by decide) (by decide)] at this
    exact this
  · unfold CWR
    rw [c2.o (by decide)]
    have := b3 141 (Or.inr rfl)
    rw [oo 141 (by decide) (by decide)] at this
    exact this
  · rw [w142, sI_s, if_pos (by omega), show 1 * r + i = r from by omega]
  · rw [w142, sI_s, if_neg (by omega)]
  · unfold CWR
    have := c3 143 (Or.inl rfl)
    rw [b2.o (by decide), oo 143 (by decide) (by decide)] at this
    exact this
  · unfold CWR
    have := c3 144 (Or.inr rfl)
    rw [b2.o (by decide), oo 144 (by decide) (by decide)] at this
    exact this
end ROWS
