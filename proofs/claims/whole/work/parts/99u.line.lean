/-! A line of the rules, by both -/
section LINE
variable {p L c h n : Nat} {s t : HS}
def GLq (p : Nat) (t s' t' : HS) : Prop := ∃ c h n, DR p c h n s' t' ∧ ONCE p s' t' ∧ FR0 (show HS from t) t'
theorem c_once {j b : Nat} (hw : s.2.2.2.2.2.2 = 1000 + j) (hj : j < 37) (h2 : j ≠ 2 ∧ j ≠ 4 ∧ j ≠ 9) (hb : onceL.getD j 0 = I (2 ^ b)) (hp : (0 : Int32) < I (2 ^ b)) {K : HS → Option HS} (hK : ∀ s17, (if 1000 + j = 1018 then bnd (f_X5_readLate p s17) fun s25 => f_X5_readLine_j161 s25 else (if 1000 + j = 1019 then bnd (f_X3_readWhole (f_X3_readPart 8) (Rf p 8) 0 s17) fun s23 => f_X5_readLine_j161 s23 else bnd (f_X5_readOnce p (1000 + j) s17) fun s21 => f_X5_readLine_j161 s21)) = K s17) : f_X5_readLine p s = if s.1 69 2 &&& I (2 ^ b) = 0 then bnd (f_X8_step (sI s 69 2 (s.1 69 2 ||| I (2 ^ b)))) fun s17 => K s17 else bnd (f_X8_fail 3 s) fun s27 => f_X5_readLine_j161 s27 := by
  have w1 : wob (1000 + j) = true := by unfold wob; simp; omega
  have w2 : woc (1000 + j) = true := by unfold woc; simp; omega
  unfold f_X5_readLine
  rw [hw, w1, w2, gd_t, if_neg (by omega), if_neg (by omega), if_neg (by omega), if_neg (by omega), gd_t, Nat.add_sub_cancel_left, hb, if_pos hp, gd_t]
  by_cases z : s.1 69 2 &&& I (2 ^ b) = 0
  · rw [if_pos z, if_pos z, gd_t, ltb_t]
    simp only [hK]
  · rw [if_neg z, if_neg z]
theorem r_line (hp : okX4 p = true) {B P : Nat} (T : TK L B P s t) (hk : ¬ t.1 101 6 = 0) (D : DR p c h n s t) (O : ONCE p s t) : ∃ y, (∀ k, f_X12_readsAll_l21b k t = bnd2 y fun w s' => f_X12_readsAll_j243 w k s') ∧ Res L B t (GLq p t) (f_X5_readLine p s) y := by
  have hB := (T.blt hk).1
  have O' := O
  obtain ⟨m, m1, m2, m3, m4⟩ := O
  have hW : ∀ j, j < 37 → f_X12_isWord (w27 j) t = if s.2.2.2.2.2.2 = 1000 + j then 1 else 0 := fun j hj => by
    obtain ⟨a, b, -⟩ := T.word hj
    by_cases z : s.2.2.2.2.2.2 = 1000 + j
    · rw [if_pos z]; exact a.mp z
    · rw [if_neg z]; exact b.resolve_right (fun w => z (a.mpr w))
  have wb := (T.word (j := 0) (by omega)).2.2
  obtain ⟨e0, -, e2, -, e4, -, -, -, -, e9, -, -, -, e13, e14, e15, e16, e17, e18, e19, -⟩ := w27_e
  have q0 := hW 0 (by omega); rw [e0] at q0
  have q2 := hW 2 (by omega); rw [e2] at q2
  have q4 := hW 4 (by omega); rw [e4] at q4
  have q9 := hW 9 (by omega); rw [e9] at q9
  have q13 := hW 13 (by omega); rw [e13] at q13
  have q14 := hW 14 (by omega); rw [e14] at q14
  have q15 := hW 15 (by omega); rw [e15] at q15
  have q16 := hW 16 (by omega); rw [e16] at q16
  have q17 := hW 17 (by omega); rw [e17] at q17
  have q18 := hW 18 (by omega); rw [e18] at q18
  have q19 := hW 19 (by omega); rw [e19] at q19
  have imp : ∀ {c' h' n' : Nat} {x y}, Res L B t (fun s' t' => DR p c' h' n' s' t' ∧ ONS p s t s' t' ∧ FR0 t t') x y → Res L B t (GLq p t) x y := fun r => r.imp (fun s' t' g => ⟨_, _, _, g.1, O'.same g.2.1, g.2.2⟩)
  have imp2 : ∀ {c' h' n' : Nat} {x y}, Res L B t (fun s' t' => DR p c' h' n' s' t' ∧ ONCE p s' t' ∧ FR0 t t') x y → Res L B t (GLq p t) x y := fun r => r.imp (fun s' t' g => ⟨_, _, _, g⟩)
  have n1 : ∀ {a b : Nat}, a ≠ b → (if (1000 + a : Nat) = 1000 + b then (1 : Int32) else 0) = 0 := fun h => if_neg (by omega)
  have y1 : ∀ {a : Nat}, (if (1000 + a : Nat) = 1000 + a then (1 : Int32) else 0) = 1 := if_pos rfl
  unfold f_X12_readsAll_l21b
  simp only [if_neg hk]
  by_cases z0 : s.2.2.2.2.2.2 = 1000 + 0
  · rw [z0] at q0
    rw [q0, y1, c_once (b := 0) z0 (by omega) (by omega) (by decide) (by decide) (K := fun u => bnd (f_X5_readOnce p (1000 + 0) u) fun s21 => f_X5_readLine_j161 s21) (fun u => by rw [if_neg (by decide), if_neg (by decide)])]
    exact ⟨_, fun k => if_neg (by decide), imp2 (l_stop hp T hB D m1 m2 m3 m4)⟩
  rw [if_neg z0] at q0
  by_cases z2 : s.2.2.2.2.2.2 = 1000 + 2
  · rw [z2] at q2
    have cl : f_X5_readLine p s = bnd (f_X5_readCoach p s) fun s35 => f_X5_readLine_j161 s35 := by
      unfold f_X5_readLine
      rw [wb, gd_t, if_pos z2]
    rw [q0, q2, y1, cl]
    exact ⟨_, fun k => by rw [if_pos (Eq.refl _), if_neg (by decide)], imp (l_coach hp T hB D)⟩
  rw [if_neg z2] at q2
  by_cases z4 : s.2.2.2.2.2.2 = 1000 + 4
  · rw [z4] at q4
    have cl : f_X5_readLine p s = bnd (f_X5_readThing p s) fun s35 => f_X5_readLine_j161 s35 := by
      unfold f_X5_readLine
      rw [wb, gd_t, if_neg z2, if_pos z4]
    rw [q0, q2, q4, y1, cl]
    exact ⟨_, fun k => by rw [if_pos (Eq.refl _), if_pos (Eq.refl _), if_neg (by decide)], imp (l_thing hp T hB D)⟩
  rw [if_neg z4] at q4
  by_cases z9 : s.2.2.2.2.2.2 = 1000 + 9
  · rw [z9] at q9
    have cl : f_X5_readLine p s = bnd (f_X5_readBuyer p s) fun s35 => f_X5_readLine_j161 s35 := by
      unfold f_X5_readLine
      rw [wb, gd_t, if_neg z2, if_neg z4, if_pos z9]
    rw [q0, q2, q4, q9, y1, cl]
    exact ⟨_, fun k => by rw [if_pos (Eq.refl _), if_pos (Eq.refl _), if_pos (Eq.refl _), if_neg (by decide)], imp (l_buyer hp T hB D)⟩
  rw [if_neg z9] at q9
  by_cases z13 : s.2.2.2.2.2.2 = 1000 + 13
  · rw [z13] at q13
    rw [q0, q2, q4, q9, q13, y1, c_once (b := 1) z13 (by omega) (by omega) (by decide) (by decide) (K := fun u => bnd (f_X5_readOnce p (1000 + 13) u) fun s21 => f_X5_readLine_j161 s21) (fun u => by rw [if_neg (by decide), if_neg (by decide)])]
    refine ⟨_, fun k => by rw [if_pos (Eq.refl _), if_pos (Eq.refl _), if_pos (Eq.refl _), if_pos (Eq.refl _), if_neg (by decide)], imp2 (c' := c) (h' := h) (n' := n) ?_⟩
    have ro : ∀ u, f_X5_readOnce p (1000 + 13) u = bnd2 (f_X8_takeNumber 1 2 u) fun y18 s19 => ltb (sI s19 p 2 y18) fun s20 => some s20 := fun u => by
      unfold f_X5_readOnce; rw [if_neg (by decide), if_pos (by decide)]
    simp only [ro]
    exact l_one hp T hB D m1 (b := 1) (by omega) m2 m3 m4 (by decide) (Or.inl ⟨rfl, rfl, rfl⟩)
  rw [if_neg z13] at q13
  by_cases z14 : s.2.2.2.2.2.2 = 1000 + 14
  · rw [z14] at q14
    rw [q0, q2, q4, q9, q13, q14, y1, c_once (b := 2) z14 (by omega) (by omega) (by decide) (by decide) (K := fun u => bnd (f_X5_readOnce p (1000 + 14) u) fun s21 => f_X5_readLine_j161 s21) (fun u => by rw [if_neg (by decide), if_neg (by decide)])]
    refine ⟨_, fun k => by rw [if_pos (Eq.refl _), if_pos (Eq.refl _), if_pos (Eq.refl _), if_pos (Eq.refl _), if_pos (Eq.refl _), if_neg (by decide)], imp2 (c' := c) (h' := h) (n' := n) ?_⟩
    have ro : ∀ u, f_X5_readOnce p (1000 + 14) u = bnd2 (f_X8_takeNumber 0 60 u) fun y18 s19 => ltb (sI s19 p 3 y18) fun s20 => some s20 := fun u => by
      unfold f_X5_readOnce; rw [if_neg (by decide), if_neg (by decide), if_pos (by decide)]
    simp only [ro]
    exact l_one hp T hB D m1 (b := 2) (by omega) m2 m3 m4 (by decide) (Or.inr (Or.inl ⟨rfl, rfl, rfl⟩))
  rw [if_neg z14] at q14
  by_cases z15 : s.2.2.2.2.2.2 = 1000 + 15
  · rw [z15] at q15
    rw [q0, q2, q4, q9, q13, q14, q15, y1, c_once (b := 3) z15 (by omega) (by omega) (by decide) (by decide) (K := fun u => bnd (f_X5_readOnce p (1000 + 15) u) fun s21 => f_X5_readLine_j161 s21) (fun u => by rw [if_neg (by decide), if_neg (by decide)])]
    refine ⟨_, fun k => by rw [if_pos (Eq.refl _), if_pos (Eq.refl _), if_pos (Eq.refl _), if_pos (Eq.refl _), if_pos (Eq.refl _), if_pos (Eq.refl _), if_neg (by decide)], imp2 (c' := c) (h' := h) (n' := n) ?_⟩
    have ro : ∀ u, f_X5_readOnce p (1000 + 15) u = bnd2 (f_X8_takeNumber 0 99 u) fun y18 s19 => ltb (sI s19 p 4 y18) fun s20 => some s20 := fun u => by
      unfold f_X5_readOnce; rw [if_neg (by decide), if_neg (by decide), if_neg (by decide), if_pos (by decide)]
    simp only [ro]
    exact l_one hp T hB D m1 (b := 3) (by omega) m2 m3 m4 (by decide) (Or.inr (Or.inr (Or.inl ⟨rfl, rfl, rfl⟩)))
  rw [if_neg z15] at q15
  by_cases z16 : s.2.2.2.2.2.2 = 1000 + 16
  · rw [z16] at q16
    rw [q0, q2, q4, q9, q13, q14, q15, q16, y1, c_once (b := 4) z16 (by omega) (by omega) (by decide) (by decide) (K := fun u => bnd (f_X5_readOnce p (1000 + 16) u) fun s21 => f_X5_readLine_j161 s21) (fun u => by rw [if_neg (by decide), if_neg (by decide)])]
    refine ⟨_, fun k => by rw [if_pos (Eq.refl _), if_pos (Eq.refl _), if_pos (Eq.refl _), if_pos (Eq.refl _), if_pos (Eq.refl _), if_pos (Eq.refl _), if_pos (Eq.refl _), if_neg (by decide)], imp2 (c' := c) (h' := h) (n' := n) ?_⟩
    have ro : ∀ u, f_X5_readOnce p (1000 + 16) u = bnd2 (f_X8_takeNumber 1 120 u) fun y18 s19 => ltb (sI s19 p 5 y18) fun s20 => some s20 := fun u => by
      unfold f_X5_readOnce; rw [if_neg (by decide), if_neg (by decide), if_neg (by decide), if_neg (by decide), if_pos (by decide)]
    simp only [ro]
    exact l_one hp T hB D m1 (b := 4) (by omega) m2 m3 m4 (by decide) (Or.inr (Or.inr (Or.inr (Or.inl ⟨rfl, rfl, rfl⟩))))
  rw [if_neg z16] at q16
  by_cases z17 : s.2.2.2.2.2.2 = 1000 + 17
  · rw [z17] at q17
    rw [q0, q2, q4, q9, q13, q14, q15, q16, q17, y1, c_once (b := 5) z17 (by omega) (by omega) (by decide) (by decide) (K := fun u => bnd (f_X5_readOnce p (1000 + 17) u) fun s21 => f_X5_readLine_j161 s21) (fun u => by rw [if_neg (by decide), if_neg (by decide)])]
    refine ⟨_, fun k => by rw [if_pos (Eq.refl _), if_pos (Eq.refl _), if_pos (Eq.refl _), if_pos (Eq.refl _), if_pos (Eq.refl _), if_pos (Eq.refl _), if_pos (Eq.refl _), if_pos (Eq.refl _), if_neg (by decide)], imp2 (c' := c) (h' := h) (n' := n) ?_⟩
    have ro : ∀ u, f_X5_readOnce p (1000 + 17) u = bnd2 (f_X8_takeNumber 1 30 u) fun y18 s19 => ltb (sI s19 p 6 y18) fun s20 => some s20 := fun u => by
      unfold f_X5_readOnce; rw [if_neg (by decide), if_neg (by decide), if_neg (by decide), if_neg (by decide), if_neg (by decide)]
    simp only [ro]
    exact l_one hp T hB D m1 (b := 5) (by omega) m2 m3 m4 (by decide) (Or.inr (Or.inr (Or.inr (Or.inr ⟨rfl, rfl, rfl⟩))))
  rw [if_neg z17] at q17
  by_cases z18 : s.2.2.2.2.2.2 = 1000 + 18
  · rw [z18] at q18
    rw [q0, q2, q4, q9, q13, q14, q15, q16, q17, q18, y1, c_once (b := 6) z18 (by omega) (by omega) (by decide) (by decide) (K := fun u => bnd (f_X5_readLate p u) fun s25 => f_X5_readLine_j161 s25) (fun u => if_pos (by decide))]
    exact ⟨_, fun k => by rw [if_pos (Eq.refl _), if_pos (Eq.refl _), if_pos (Eq.refl _), if_pos (Eq.refl _), if_pos (Eq.refl _), if_pos (Eq.refl _), if_pos (Eq.refl _), if_pos (Eq.refl _), if_pos (Eq.refl _), if_neg (by decide)], imp2 (l_late hp T hB D m1 m2 m3 m4)⟩
  rw [if_neg z18] at q18
  by_cases z19 : s.2.2.2.2.2.2 = 1000 + 19
  · rw [z19] at q19
    rw [q0, q2, q4, q9, q13, q14, q15, q16, q17, q18, q19, y1, c_once (b := 7) z19 (by omega) (by omega) (by decide) (by decide) (K := fun u => bnd (f_X3_readWhole (f_X3_readPart 8) (Rf p 8) 0 u) fun s23 => f_X5_readLine_j161 s23) (fun u => by rw [if_neg (by decide), if_pos (by decide)])]
    exact ⟨_, fun k => by rw [if_pos (Eq.refl _), if_pos (Eq.refl _), if_pos (Eq.refl _), if_pos (Eq.refl _), if_pos (Eq.refl _), if_pos (Eq.refl _), if_pos (Eq.refl _), if_pos (Eq.refl _), if_pos (Eq.refl _), if_pos (Eq.refl _), if_neg (by decide)], imp2 (l_order hp T hB D m1 m2 m3 m4)⟩
  rw [if_neg z19] at q19
  -- no word that begins a line
  have cl : f_X5_readLine p s = bnd (f_X8_fail 1 s) fun s7 => f_X5_readLine_j161 s7 := by
    unfold f_X5_readLine
    rw [wb, gd_t, if_neg z2, if_neg z4, if_neg z9]
    by_cases z : s.2.2.2.2.2.2 = 0
    · rw [if_pos z]
    · have w : 1000 ≤ s.2.2.2.2.2.2 ∧ s.2.2.2.2.2.2 < 1037 := by
        unfold wob at wb
        simp at wb
        omega
      have w2 : woc s.2.2.2.2.2.2 = true := by unfold woc; simp; omega
      have w3 : ∀ j, j < 37 → j ≠ 0 → (j < 13 ∨ 19 < j) → ¬ (0 : Int32) < onceL.getD j 0 := by decide +kernel
      rw [if_neg z, w2, gd_t, if_neg (w3 _ (by omega) (by omega) (by omega))]
  rw [q0, q2, q4, q9, q13, q14, q15, q16, q17, q18, q19, cl]
  refine ⟨bnd2 (f_X12_fails 1 t) fun y t' => gd (isb y) (some (y, t')), fun k => ?_, ?_⟩
  · rw [if_pos (Eq.refl _), if_pos (Eq.refl _), if_pos (Eq.refl _), if_pos (Eq.refl _), if_pos (Eq.refl _), if_pos (Eq.refl _), if_pos (Eq.refl _), if_pos (Eq.refl _), if_pos (Eq.refl _), if_pos (Eq.refl _), if_pos (Eq.refl _)]
    unfold f_X12_fails
    rw [ltb_t, bnd2_t, bnd2_t, show isb 0 = true from by decide, gd_t, bnd2_t]
  · refine f_fail T Wr.nil free_nil (by decide) (Q := fun _ => True) (DK.go fun s D _ => ?_) (fun _ _ => trivial)
    unfold f_X5_readLine_j161
    simp only [Dd.takeSign, D, bnd_t]
    exact ⟨s, rfl, D, rfl⟩
end LINE
