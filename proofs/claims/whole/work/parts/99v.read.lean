/-! The rules read, by both -/
section READR
variable {p L : Nat}
theorem r_lines_l (hp : okX4 p = true) : ∀ e B P s t v2 c h n, L - B ≤ e → TK L B P s t → DR p c h n s t → ONCE p s t → v2 ≤ B → ∃ u, (∀ f, e < f → f_X5_read_l18 p f (I v2) s = some (u.1 36 9, sI u 36 1 0)) ∧ ((∃ B' P' t' c' h' n', u.1 36 9 = 0 ∧ (∀ f, e < f → f_X12_readsAll_l21 f t = some (1, t')) ∧ TK L B' P' u t' ∧ DR p c' h' n' u t' ∧ ONCE p u t' ∧ FR0 t t') ∨ (∃ t', BD u t' ∧ (∀ f, e < f → f_X12_readsAll_l21 f t = some (0, t')) ∧ FR0 t t')) := by
  have fin : ∀ u : HS, (bnd2 (f_X8_finish u) fun y s => some (y, s)) = some (u.1 36 9, sI u 36 1 0) := fun u => by
    unfold f_X8_finish
    rw [ltb_t, bnd2_t, sI_s, if_neg (by decide)]
  have dead : ∀ u : HS, Dd u → ∀ f v, f_X5_read_l18 p (f + 1) v u = some (u.1 36 9, sI u 36 1 0) := fun u D f v => by
    show f_X5_read_l18b p v _ u = _
    unfold f_X5_read_l18b
    rw [fin, D.goes, if_pos (Eq.refl _)]
    split <;> rfl
  have main : ∀ e B P s t v2 c h n, L - B ≤ e → TK L B P s t → DR p c h n s t → ONCE p s t → v2 ≤ B → (∀ B' P' s' t' v2 c h n, B < B' → TK L B' P' s' t' → DR p c h n s' t' → ONCE p s' t' → v2 ≤ B' → ∃ u, (∀ f, e - 1 < f → f_X5_read_l18 p f (I v2) s' = some (u.1 36 9, sI u 36 1 0)) ∧ ((∃ B' P' t'' c' h' n', u.1 36 9 = 0 ∧ (∀ f, e - 1 < f → f_X12_readsAll_l21 f t' = some (1, t'')) ∧ TK L B' P' u t'' ∧ DR p c' h' n' u t'' ∧ ONCE p u t'' ∧ FR0 t' t'') ∨ (∃ t'', BD u t'' ∧ (∀ f, e - 1 < f → f_X12_readsAll_l21 f t' = some (0, t'')) ∧ FR0 t' t''))) → ∃ u, (∀ f, e < f → f_X5_read_l18 p f (I v2) s = some (u.1 36 9, sI u 36 1 0)) ∧ ((∃ B' P' t' c' h' n', u.1 36 9 = 0 ∧ (∀ f, e < f → f_X12_readsAll_l21 f t = some (1, t')) ∧ TK L B' P' u t' ∧ DR p c' h' n' u t' ∧ ONCE p u t' ∧ FR0 t t') ∨ (∃ t', BD u t' ∧ (∀ f, e < f → f_X12_readsAll_l21 f t = some (0, t')) ∧ FR0 t t')) := by
    intro e B P s t v2 c h n he T D O hv ih
    have hle := T.le
    have k9 : s.1 36 9 = 0 := T.2.2.1
    have k4 := T.kind
    by_cases z : t.1 101 6 = 0
    · have go : f_X8_goesOn s = 0 := by
        unfold f_X8_goesOn
        rw [if_pos k9, if_pos (k4.trans z)]
      refine ⟨s, fun f hf => ?_, Or.inl ⟨B, P, t, c, h, n, k9, fun f hf => ?_, T, D, O, FR0.refl⟩⟩
      · obtain ⟨f', rfl⟩ : ∃ f', f = f' + 1 := ⟨f - 1, by omega⟩
        show f_X5_read_l18b p (I v2) _ s = _
        unfold f_X5_read_l18b
        rw [fin, go, if_pos (Eq.refl _)]
        split <;> rfl
      · obtain ⟨f', rfl⟩ : ∃ f', f = f' + 1 := ⟨f - 1, by omega⟩
        show f_X12_readsAll_l21b _ t = _
        unfold f_X12_readsAll_l21b
        rw [if_pos z]
    · have hb := T.blt z
      have go : ¬ f_X8_goesOn s = 0 := by
        unfold f_X8_goesOn
        rw [if_pos k9, if_neg (by rw [k4]; exact z)]
        decide
      have stepc : ∀ f, f_X5_read_l18 p (f + 1) (I v2) s = bnd (f_X5_readLine p s) fun s11 => f_X5_read_l18 p f (I (v2 + 1)) s11 := fun f => by
        show f_X5_read_l18b p (I v2) _ s = _
        unfold f_X5_read_l18b
        rw [if_neg (by rw [show (1000 : Int32) = I 1000 from litI 1000, I_le (by omega) (by omega)]; omega), if_neg go]
        simp only [ltb_t, I_p1]
      obtain ⟨y, y1, y2⟩ := r_line hp T z D O
      have stepm : ∀ f, f_X12_readsAll_l21 (f + 1) t = bnd2 y fun w s' => f_X12_readsAll_j243 w (f_X12_readsAll_l21 f) s' := fun f => y1 _
      rcases y2 with ⟨B', P', s', t', r1, r2, r3, r4, ⟨c', h', n', g1, g2, g3⟩⟩ | ⟨s', t', r1, r2, r3, r4⟩
      · obtain ⟨u, u1, u2⟩ := ih B' P' s' t' (v2 + 1) c' h' n' r4 r3 g1 g2 (by omega)
        refine ⟨u, fun f hf => ?_, ?_⟩
        · obtain ⟨f', rfl⟩ : ∃ f', f = f' + 1 := ⟨f - 1, by omega⟩
          rw [stepc, r1, bnd_t]
          exact u1 f' (by omega)
        · have lm : ∀ f r, (∀ f, e - 1 < f → f_X12_readsAll_l21 f t' = r) → e < f → f_X12_readsAll_l21 f t = r := fun f r hr hf => by
            obtain ⟨f', rfl⟩ : ∃ f', f = f' + 1 := ⟨f - 1, by omega⟩
            rw [stepm, r2, bnd2_t]
            unfold f_X12_readsAll_j243
            rw [if_neg (by decide)]
            exact hr f' (by omega)
          rcases u2 with ⟨B2, P2, t2, c2, h2, n2, a1, a2, a3, a4, a5, a6⟩ | ⟨t2, a1, a2, a3⟩
          · exact Or.inl ⟨B2, P2, t2, c2, h2, n2, a1, fun f hf => lm f _ a2 hf, a3, a4, a5, g3.trans a6⟩
          · exact Or.inr ⟨t2, a1, fun f hf => lm f _ a2 hf, g3.trans a3⟩
      · refine ⟨s', fun f hf => ?_, Or.inr ⟨t', r3, fun f hf => ?_, r4⟩⟩
        · obtain ⟨f', rfl⟩ : ∃ f', f = f' + 1 := ⟨f - 1, by omega⟩
          rw [stepc, r1, bnd_t]
          obtain ⟨f'', rfl⟩ : ∃ f'', f' = f'' + 1 := ⟨f' - 1, by omega⟩
          exact dead s' r3.1 f'' _
        · obtain ⟨f', rfl⟩ : ∃ f', f = f' + 1 := ⟨f - 1, by omega⟩
          rw [stepm, r2, bnd2_t]
          unfold f_X12_readsAll_j243
          rw [if_pos (Eq.refl _)]
  intro e
  induction e with
  | zero =>
    intro B P s t v2 c h n he T D O hv
    refine main 0 B P s t v2 c h n he T D O hv (fun B' P' s' t' _ _ _ _ hb T' _ _ _ => ?_)
    have := T'.le
    omega
  | succ e ih =>
    intro B P s t v2 c h n he T D O hv
    exact main (e + 1) B P s t v2 c h n he T D O hv (fun B' P' s' t' v c h n hb T' D' O' hv' => ih B' P' s' t' v c h n (by omega) T' D' O' hv')
end READR
/-! A plain junction, of both -/
section PLAIN
theorem pl_1 : ∀ e k, k + e = 10 → ∀ t, ∃ t', (∀ K f, e < f → f_X12_plain_l2 1 K f (I k) t = K t') ∧ (∀ o j, (o ≠ 103 ∨ j < 10 + k ∨ 20 ≤ j) → t'.1 o j = t.1 o j) ∧ (∀ j, k ≤ j → j < 10 → t'.1 103 (10 + j) = 0) ∧ t'.2 = t.2 := by
  intro e
  induction e with
  | zero =>
    intro k hk t
    obtain rfl : k = 10 := by omega
    refine ⟨t, fun K f hf => ?_, fun _ _ _ => rfl, fun j h1 h2 => by omega, rfl⟩
    obtain ⟨f', rfl⟩ : ∃ f', f = f' + 1 := ⟨f - 1, by omega⟩
    show f_X12_plain_l2b 1 (I 10) _ K t = _
    unfold f_X12_plain_l2b
    rw [if_pos (by decide)]
  | succ e ih =>
    intro k hk t
    have e1 : (10 : Int32) * 1 + I k = I (10 + k) := by rw [show (10 : Int32) * 1 = I 10 from by decide, I_add]
    obtain ⟨t', a1, a2, a3, a4⟩ := ih (k + 1) (by omega) (sI t 103 (10 + k) 0)
    refine ⟨t', fun K f hf => ?_, fun o j hj => ?_, fun j h1 h2 => ?_, a4⟩
    · obtain ⟨f', rfl⟩ : ∃ f', f = f' + 1 := ⟨f - 1, by omega⟩
      show f_X12_plain_l2b 1 (I k) _ K t = _
      unfold f_X12_plain_l2b
      rw [if_neg (by rw [show (10 : Int32) = I 10 from litI 10, I_le (by omega) (by omega)]; omega), e1, inb_t (by omega) (by omega), gd_t, I_nat (by omega), ltb_t, ltb_t, I_p1]
      exact a1 K f' (by omega)
    · rw [a2 o j (by omega), sI_at]
      by_cases y : o = 103
      · rw [if_pos y, if_neg (by omega), y]
      · rw [if_neg y]
    · by_cases y : j = k
      · rw [a2 103 _ (by omega), y, sI_k]
      · exact a3 j (by omega) h2
theorem pl_2 : ∀ e k, k + e = 4 → ∀ t, ∃ t', (∀ K f, e < f → f_X12_plain_l123 1 K f (I k) t = K t') ∧ (∀ o j, (o ≠ 119 ∨ j < 4 + k ∨ 8 ≤ j) → t'.1 o j = t.1 o j) ∧ (∀ j, k ≤ j → j < 4 → t'.1 119 (4 + j) = if j = 0 then 10 else 0) ∧ t'.2 = t.2 := by
  intro e
  induction e with
  | zero =>
    intro k hk t
    obtain rfl : k = 4 := by omega
    refine ⟨t, fun K f hf => ?_, fun _ _ _ => rfl, fun j h1 h2 => by omega, rfl⟩
    obtain ⟨f', rfl⟩ : ∃ f', f = f' + 1 := ⟨f - 1, by omega⟩
    show f_X12_plain_l123b 1 (I 4) _ K t = _
    unfold f_X12_plain_l123b
    rw [if_pos (by decide)]
  | succ e ih =>
    intro k hk t
    have e1 : (4 : Int32) * 1 + I k = I (4 + k) := by rw [show (4 : Int32) * 1 = I 4 from by decide, I_add]
    obtain ⟨t', a1, a2, a3, a4⟩ := ih (k + 1) (by omega) (sI t 119 (4 + k) (if k = 0 then 10 else 0))
    refine ⟨t', fun K f hf => ?_, fun o j hj => ?_, fun j h1 h2 => ?_, a4⟩
    · obtain ⟨f', rfl⟩ : ∃ f', f = f' + 1 := ⟨f - 1, by omega⟩
      show f_X12_plain_l123b 1 (I k) _ K t = _
      unfold f_X12_plain_l123b
      rw [if_neg (by rw [show (4 : Int32) = I 4 from litI 4, I_le (by omega) (by omega)]; omega), e1, inb_t (by omega) (by omega), gd_t, gd_t, I_nat (by omega), ltb_t, ltb_t, ltb_t, ltb_t, I_p1]
      by_cases y : k = 0
      · rw [if_pos (by rw [y]; exact I_e0)]
        rw [if_pos y] at a1
        exact a1 K f' (by omega)
      · rw [if_neg (by rw [I0, I_inj (by omega) (by omega)]; exact y)]
        rw [if_neg y] at a1
        exact a1 K f' (by omega)
    · rw [a2 o j (by omega), sI_at]
      by_cases y : o = 119
      · rw [if_pos y, if_neg (by omega), y]
      · rw [if_neg y]
    · by_cases y : j = k
      · rw [a2 119 _ (by omega), y, sI_k]
      · exact a3 j (by omega) h2
end PLAIN
