/-! order: level by level, both at once -/
def cl (n q : Nat) (v : Int32) : Nat → HS → Option HS
  | 0 => f_X3_readPart n q v
  | 1 => f_X3_readProduct (f_X3_readPart n) q v
  | 2 => f_X3_readSum (f_X3_readPart n) q v
  | 3 => f_X3_readTest (f_X3_readPart n) q v
  | _ => f_X3_readWhole (f_X3_readPart n) q v
def PSa (p L n l d : Nat) : Prop := ∀ B P s t C R k, TK L B P s t → CCs p C s → RCs R t → C.length + k ≤ B → R.length ≤ B → (t.1 124 d = 0 ∨ t.1 124 d = 1) → (3 ≤ l → t.1 124 d = 0) → (1 ≤ l → popd (t.1 123) d = d) → ∃ s', cl n (p + 2) (I d) l s = some s' ∧ (Okk p L l d k B 1 C R t s' ∨ Bad p L d B 1 t s')
def PSd (p n l d : Nat) : Prop := ∀ s, DC p s → ∃ s', cl n (p + 2) (I d) l s = some s' ∧ DC p s' ∧ s'.1 36 9 = s.1 36 9
def PS (p L n l d : Nat) : Prop := PSa p L n l d ∧ PSd p n l d
section LEVELS
variable {p L B P : Nat} {s t : HS} {C R : List Int32}
theorem TK.le (T : TK L B P s t) : B ≤ P ∧ P ≤ L ∧ L ≤ 1000 := ⟨T.2.1.1, T.2.1.2.1, T.1.1⟩
theorem put1 (T : TK L B P s t) (h : RCs R t) (hl : R.length < 1000) (v : Int32) : ∃ t1, f_X12_puts v t = some t1 ∧ RCs (R ++ [v]) t1 ∧ TK L B P s t1 ∧ t1.1 123 = t.1 123 ∧ t1.1 124 = t.1 124 ∧ ∀ j, j < 1000 → t1.1 122 j = t.1 122 j := by
  obtain ⟨t1, e1, e2, e3⟩ := m_puts h hl v
  refine ⟨t1, e1, e2, ?_, ?_, ?_, ?_⟩
  · rw [e3]; exact (T.mI ⟨Or.inl (by decide), by decide⟩).mI ⟨Or.inr (by omega), by decide⟩
  · rw [e3, sI_n _ _ _ (show 123 ≠ 101 from by decide), sI_n _ _ _ (show 123 ≠ 122 from by decide)]
  · rw [e3, sI_n _ _ _ (show 124 ≠ 101 from by decide), sI_n _ _ _ (show 124 ≠ 122 from by decide)]
  · intro j hj
    rw [e3, sI_n _ _ _ (show 122 ≠ 101 from by decide), sI_s, if_neg (by omega)]
theorem add1 (hp : okX4 p = true) (h : CCs p C s) (hl : C.length < 1000) (v : Int32) : ∃ s1, f_X2_add (p + 2) v s = some s1 ∧ CCs p (C ++ [v]) s1 ∧ s1.1 36 = s.1 36 ∧ s1.2.2.2.2.2.2 = s.2.2.2.2.2.2 ∧ ∀ B P t, TK L B P s t → TK L B P s1 t := by
  obtain ⟨q1, q2, q3, q4, q5, q6⟩ := qS_e hp
  obtain ⟨s1, e1, e2, e3⟩ := c_add hp h hl v
  refine ⟨s1, e1, e2, ?_, by rw [e3]; rfl, fun B P t T => ?_⟩
  · rw [e3, sI_n _ _ _ (Ne.symm q3), sI_n _ _ _ (Ne.symm q5)]
  · rw [e3]; exact (T.cI ⟨q5, q6⟩).cI ⟨q3, q4⟩
theorem nx1 (hp : okX4 p = true) (T : TK L B P s t) : ∃ B' P' s' t', f_X8_step s = some s' ∧ f_X12_nextToken t = some t' ∧ TK L B' P' s' t' ∧ P ≤ B' ∧ (∀ C, CCs p C s → CCs p C s') ∧ (∀ R, RCs R t → RCs R t') ∧ t'.1 123 = t.1 123 ∧ t'.1 124 = t.1 124 ∧ t'.1 122 = t.1 122 := by
  obtain ⟨B', P', s', t', q1, q2, q3, q4, q5, q6⟩ := T.next
  exact ⟨B', P', s', t', q1, q2, q3, q4, fun C h => h.fr hp q5 (by decide), fun R h => h.fr q6 (by decide), q6.o (by decide), q6.o (by decide), q6.o (by decide)⟩
theorem Fr.q (hp : okX4 p = true) {A : List (Nat × Nat)} {s s' : HS} (f : Fr A s s') (e : wo A 4 = false ∧ wo A 40 = false) : s'.1 (p + 2) = s.1 (p + 2) := by
  rcases okX4_c hp with rfl | rfl
  · exact f.o e.1
  · exact f.o e.2
theorem fail1 (hp : okX4 p = true) (T : TK L B P s t) (h : CCs p C s) (hl : C.length ≤ 1000) {v : Int32} (hv : 1 ≤ v.toInt ∧ v.toInt ≤ 5) : ∃ s' t', f_X8_fail v s = some s' ∧ f_X12_fails v t = some (0, t') ∧ BD s' t' ∧ DC p s' ∧ ∀ j, j < 1000 → t'.1 122 j = t.1 122 j := by
  obtain ⟨s', t', q1, q2, q3, q4, q5⟩ := T.fail hv
  exact ⟨s', t', q1, q2, q3, ⟨q3.1, C.length, hl, by rw [q4.q hp (by decide)]; exact h.1⟩, fun j _ => by rw [q5.o (show wo LF2 122 = false from by decide)]⟩
theorem fuelS {L B f : Nat} (h : L - B < f) : ∃ f', f = f' + 1 := ⟨f - 1, by omega⟩
theorem Okk.pop {l d k v : Nat} {s' : HS} (O : Okk p L l d k B v C R t s') : True := trivial
/-- the class, where a part is wanted -/
theorem c_gate {d : Nat} (hd : d ≤ 5) : (I d < 5 ↔ d ≤ 4) ∧ (I d = 5 ↔ d = 5) := by
  rw [show (5 : Int32) = I 5 from litI 5, I_lt (by omega) (by omega), I_inj (by omega) (by omega)]
  omega
theorem once_n : ∀ j, j < 37 → (onceL.getD j 0 = -1 ↔ 33 ≤ j) := by decide +kernel
theorem c_num (rp : Nat → Int32 → HS → Option HS) (q : Nat) (v : Int32) (h0 : s.2.2.2.2.2.2 = 0) (h1 : s.1 36 4 = 2) : f_X3_readPartb rp q v s = if v < 5 then (if f_X8_isSign 40 s = 0 then bnd (f_X2_add q (s.1 36 6) s) fun s12 => bnd (f_X8_step s12) fun s14 => some s14 else bnd (f_X8_step s) fun s21 => bnd (f_X3_readWhole rp q (v + 1) s21) fun s23 => bnd (f_X8_takeSign 41 s23) fun s25 => some s25) else bnd (f_X8_fail 5 s) fun s33 => some s33 := by
  unfold f_X3_readPartb f_X3_readPart_j28 f_X3_readPart_j29 f_X3_readPart_j48 f_X3_readPart_j97
  rw [h0, show wob 0 = true from by decide, gd_t, if_pos (Eq.refl _), gd_t, if_neg (by decide), ltb_t, if_pos h1, if_pos (Eq.refl _), if_pos (Eq.refl _)]
theorem c_fact (rp : Nat → Int32 → HS → Option HS) (q : Nat) (v : Int32) {i : Nat} (hi : i < 4) (h0 : s.2.2.2.2.2.2 = 1033 + i) (h1 : ¬ s.1 36 4 = 2) (h2 : f_X8_isSign 40 s = 0) : f_X3_readPartb rp q v s = if v < 5 then bnd (f_X2_add q (-(I (i + 1))) s) fun s12 => bnd (f_X8_step s12) fun s14 => some s14 else bnd (f_X8_fail 5 s) fun s33 => some s33 := by
  unfold f_X3_readPartb f_X3_readPart_j28 f_X3_readPart_j29 f_X3_readPart_j48 f_X3_readPart_j97
  have w1 : wob (1033 + i) = true := by unfold wob; simp; omega
  have w2 : woc (1033 + i) = true := by unfold woc; simp; omega
  have w3 : f_X3_factOf (1033 + i) s = -(I (i + 1)) := by
    unfold f_X3_factOf
    rcases (show i = 0 ∨ i = 1 ∨ i = 2 ∨ i = 3 from by omega) with rfl | rfl | rfl | rfl <;> decide
  rw [h0, w1, w2, gd_t, gd_t, gd_t, gd_t, gd_t, if_neg (by omega), show 1033 + i - 1000 = 33 + i from by omega, if_pos ((once_n (33 + i) (by omega)).mpr (by omega)), if_neg (by omega), ltb_t, if_neg h1, if_neg (by decide)]
  by_cases z : v < 5
  · rw [if_pos z, if_pos z, if_pos (Eq.refl _), h2, if_pos (Eq.refl _), if_neg (by decide), w3]
    simp only [gd_t]
  · rw [if_neg z, if_neg z, gd_t]
theorem c_not (rp : Nat → Int32 → HS → Option HS) (q : Nat) (v : Int32) (h0 : s.2.2.2.2.2.2 = 1030) (h1 : ¬ s.1 36 4 = 2) : f_X3_readPartb rp q v s = if v < 5 then bnd (f_X8_step s) fun s27 => bnd (rp q (v + 1) s27) fun s29 => bnd (f_X2_add q (-5) s29) fun s31 => some s31 else bnd (f_X8_fail 5 s) fun s33 => some s33 := by
  unfold f_X3_readPartb f_X3_readPart_j28 f_X3_readPart_j29 f_X3_readPart_j48 f_X3_readPart_j97
  rw [h0, show wob 1030 = true from by decide, show woc 1030 = true from by decide, gd_t, gd_t, gd_t, gd_t, if_neg (by decide), if_neg (by decide), if_pos (Eq.refl _), ltb_t, if_neg h1, if_pos (Eq.refl _), if_neg (by decide)]
  by_cases z : v < 5
  · rw [if_pos z, if_pos z, if_neg (by decide), gd_t]
  · rw [if_neg z, if_neg z, gd_t]
theorem c_par (rp : Nat → Int32 → HS → Option HS) (q : Nat) (v : Int32) (h0 : s.2.2.2.2.2.2 = 0) (h1 : ¬ s.1 36 4 = 2) (h2 : f_X8_isSign 40 s = 1) : f_X3_readPartb rp q v s = if v < 5 then bnd (f_X8_step s) fun s21 => bnd (f_X3_readWhole rp q (v + 1) s21) fun s23 => bnd (f_X8_takeSign 41 s23) fun s25 => some s25 else bnd (f_X8_fail 5 s) fun s33 => some s33 := by
  unfold f_X3_readPartb f_X3_readPart_j28 f_X3_readPart_j29 f_X3_readPart_j48 f_X3_readPart_j97
  rw [h0, show wob 0 = true from by decide, gd_t, if_pos (Eq.refl _), gd_t, if_neg (by decide), ltb_t, if_neg h1, if_pos (Eq.refl _), if_pos (Eq.refl _), h2, if_neg (by decide)]
  by_cases z : v < 5
  · rw [if_pos z, if_pos z, if_pos (Eq.refl _), if_neg (by decide)]
  · rw [if_neg z, if_neg z]
theorem c_none (rp : Nat → Int32 → HS → Option HS) (q : Nat) (v : Int32) (hw : wob s.2.2.2.2.2.2 = true) (h0 : ¬ s.2.2.2.2.2.2 = 1030) (h3 : ∀ i, i < 4 → ¬ s.2.2.2.2.2.2 = 1033 + i) (h1 : ¬ s.1 36 4 = 2) (h2 : f_X8_isSign 40 s = 0) : f_X3_readPartb rp q v s = bnd (f_X8_fail 1 s) fun s38 => some s38 := by
  unfold f_X3_readPartb f_X3_readPart_j28 f_X3_readPart_j29 f_X3_readPart_j48
  rw [hw, gd_t, gd_t, gd_t, gd_t, if_neg h0, h2, ltb_t, if_neg h1, if_pos (Eq.refl _), if_pos (Eq.refl _), if_pos (Eq.refl _)]
  by_cases z : s.2.2.2.2.2.2 = 0
  · rw [if_pos z]
  · have w : 1000 ≤ s.2.2.2.2.2.2 ∧ s.2.2.2.2.2.2 < 1037 := by
      unfold wob at hw
      simp at hw
      omega
    have w2 : woc s.2.2.2.2.2.2 = true := by unfold woc; simp; omega
    rw [if_neg z, w2, gd_t, if_neg (fun q => by
      have := (once_n _ (by omega)).mp q
      exact h3 (s.2.2.2.2.2.2 - 1033) (by omega) (by omega))]
end LEVELS
