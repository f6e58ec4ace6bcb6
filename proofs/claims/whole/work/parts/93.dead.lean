/-! The class's TAPE once it has failed: nothing moves it -/
def Dd (s : HS) : Prop := ¬ s.1 36 9 = 0 ∧ s.1 36 4 = 4 ∧ s.2.2.2.2.2.2 = 0
section DEAD
variable {s : HS}
theorem sQ5_same {w : Nat} (h : s.2.2.2.2.2.2 = w) : sQ5 s w = s := by
  subst h; obtain ⟨a, b, c, d, e, f, g⟩ := s; rfl
theorem Dd.step (D : Dd s) : f_X8_step s = some s := by unfold f_X8_step; rw [if_neg D.1]
theorem Dd.fail (D : Dd s) (k : Int32) : f_X8_fail k s = some s := by
  unfold f_X8_fail
  rw [if_neg D.1, ltb_t, ltb_t, sI_same D.2.1, sQ5_same D.2.2]
theorem Dd.sign (D : Dd s) (c : Int32) : f_X8_isSign c s = 0 := by
  unfold f_X8_isSign
  rw [D.2.1, if_neg (by decide)]
theorem Dd.takeSign (D : Dd s) (c : Int32) : f_X8_takeSign c s = some s := by
  unfold f_X8_takeSign
  rw [D.sign, if_pos (Eq.refl _), D.fail, bnd_t]
theorem Dd.num (D : Dd s) (a b : Int32) : f_X8_takeNumber a b s = some (0, s) := by
  unfold f_X8_takeNumber
  rw [D.2.1, ltb_t, if_neg (by decide), D.fail, bnd_t]
theorem Dd.take (D : Dd s) {w : Nat} (hw : 0 < w) : f_X8_take w s = some s := by
  unfold f_X8_take
  rw [D.2.2, show wob 0 = true from by decide, gd_t, if_neg (by omega), D.fail, bnd_t]
theorem Dd.name (D : Dd s) : f_X8_isName s = some 0 := by
  unfold f_X8_isName
  rw [D.2.1, if_neg (by decide)]
theorem Dd.known (D : Dd s) (v : Int32) : f_X8_takeKnown v s = some (0, s) := by
  unfold f_X8_takeKnown
  rw [D.name, bnd_t, if_pos (Eq.refl _), D.fail, bnd_t]
theorem Dd.one (D : Dd s) {a b c : Nat} (ha : 0 < a) (hb : 0 < b) (hc : 0 < c) : f_X8_takeOneOf a b c s = some (2, s) := by
  unfold f_X8_takeOneOf f_X8_takeOneOf_j25
  rw [D.2.2, show wob 0 = true from by decide, gd_t, gd_t, if_neg (by omega), if_neg (by omega), if_neg (by decide), if_neg (by decide), D.take hc, bnd_t]
theorem Dd.new (D : Dd s) (p : Nat) : f_X5_takeNewName p s = some (s.2.1 36 5, s) := by
  unfold f_X5_takeNewName
  rw [ltb_t, D.name, bnd_t, if_pos (Eq.refl _), D.fail, bnd_t]
theorem Dd.goes (D : Dd s) : f_X8_goesOn s = 0 := by
  unfold f_X8_goesOn
  rw [if_neg D.1]
theorem Dd.sI (D : Dd s) {o k : Nat} {x : Int32} (h : o ≠ 36) : Dd (sI s o k x) := by
  refine ⟨?_, ?_, D.2.2⟩
  · rw [sI_n _ _ _ (Ne.symm h)]; exact D.1
  · rw [sI_n _ _ _ (Ne.symm h)]; exact D.2.1
theorem Dd.sL (D : Dd s) {o k : Nat} {x : Int64} : Dd (sL s o k x) := D
end DEAD
/-- both have failed -/
def BD (s t : HS) : Prop := Dd s ∧ t.1 101 9 = s.1 36 9
def LF1 : List (Nat × Nat) := [(36, 3), (36, 4), (36, 5), (36, 6), (36, 7), (36, 8), (36, 10), (0, 6)]
def LF2 : List (Nat × Nat) := [(101, 5), (101, 6), (101, 7), (101, 8), (101, 9), (101, 10), (101, 45)]
/-- the reference's words -/
theorem w27_e : w27 0 = 388978 ∧ w27 1 = 43347 ∧ w27 2 = 1890386 ∧ w27 3 = 13318957 ∧ w27 4 = 10793230 ∧ w27 5 = 377722 ∧ w27 6 = 8863997 ∧ w27 7 = 6257 ∧ w27 8 = 1900846 ∧ w27 9 = 1494603 ∧ w27 10 = 298288 ∧ w27 11 = 82422 ∧ w27 12 = 12253591 ∧ w27 13 = 12528014 ∧ w27 14 = 47328332 ∧ w27 15 = 243208 ∧ w27 16 = 14110 ∧ w27 17 = 315743 ∧ w27 18 = 237470 ∧ w27 19 = 8328978 ∧ w27 20 = 11522 ∧ w27 21 = 257 ∧ w27 22 = 15809 ∧ w27 23 = 13703 ∧ w27 24 = 14716 ∧ w27 25 = 385495 ∧ w27 26 = 11912 ∧ w27 27 = 8740238 ∧ w27 28 = 8813992 ∧ w27 29 = 2690359 ∧ w27 30 = 10631 ∧ w27 31 = 1111 ∧ w27 32 = 423 ∧ w27 33 = 4419 ∧ w27 34 = 12249946 ∧ w27 35 = 3130427 ∧ w27 36 = 257011 := by decide +kernel
def kc : List Int64 → Int64 → Int32
  | [], _ => 0
  | a :: l, w => if lg_cmp w a = 0 then 1 else kc l w
theorem kc_e : ∀ (l : List Int64) (w : Int64), (kc l w = 1 ∧ w ∈ l) ∨ (kc l w = 0 ∧ ¬ w ∈ l) := by
  intro l w
  induction l with
  | nil => exact Or.inr ⟨rfl, List.not_mem_nil⟩
  | cons a l ih =>
    by_cases z : w = a
    · exact Or.inl ⟨by show (if lg_cmp w a = 0 then (1 : Int32) else kc l w) = 1; rw [if_pos (cmp_e.mpr z)], by rw [z]; exact List.mem_cons_self⟩
    · have e : kc (a :: l) w = kc l w := by show (if lg_cmp w a = 0 then (1 : Int32) else kc l w) = _; rw [if_neg (fun q => z (cmp_e.mp q))]
      rw [e]
      rcases ih with ih | ih
      · exact Or.inl ⟨ih.1, List.mem_cons_of_mem _ ih.2⟩
      · exact Or.inr ⟨ih.1, fun q => (List.mem_cons.mp q).elim z ih.2⟩
def KLs : List Int64 := [388978, 43347, 1890386, 13318957, 10793230, 377722, 8863997, 6257, 1900846, 1494603, 298288, 82422, 12253591, 12528014, 47328332, 243208, 14110, 315743, 237470, 8328978, 11522, 257, 15809, 13703, 14716, 385495, 11912, 8740238, 8813992, 2690359, 10631, 1111, 423]
theorem kept_kc (t : HS) : f_X12_isKept t = if t.1 101 6 = 1 then kc KLs (t.2.1 101 7) else 1 := by
  unfold f_X12_isKept KLs
  simp only [kc]
theorem KLs_j : ∀ j, j < 37 → (w27 j ∈ KLs ↔ ¬ onceL.getD j 0 = -1) := by decide +kernel
theorem KLs_m : ∀ w ∈ KLs, ∃ j, j < 37 ∧ w = w27 j := by
  have : ∀ w ∈ KLs, (List.range 37).any (fun j => w == w27 j) = true := by decide +kernel
  intro w hw
  obtain ⟨j, j1, j2⟩ := List.any_eq_true.mp (this w hw)
  exact ⟨j, List.mem_range.mp j1, by simpa using j2⟩
section TAKE
variable {L B P : Nat} {s t : HS}
theorem TK.next (T : TK L B P s t) : ∃ B' P' s' t', f_X8_step s = some s' ∧ f_X12_nextToken t = some t' ∧ TK L B' P' s' t' ∧ P ≤ B' ∧ Fr LT1 s s' ∧ Fr LT2 t t' := by
  obtain ⟨t1, t2, t3, t4, -⟩ := T
  exact r_step t1 t3 t2.2.1 t4.1 t4.2
theorem TK.fail (T : TK L B P s t) {v : Int32} (hv : 1 ≤ v.toInt ∧ v.toInt ≤ 5) : ∃ s' t', f_X8_fail v s = some s' ∧ f_X12_fails v t = some (0, t') ∧ BD s' t' ∧ Fr LF1 s s' ∧ Fr LF2 t t' := by
  obtain ⟨t1, t2, t3, t4, t5, -⟩ := T
  have L1 := t1.1
  obtain ⟨k, k1, k2⟩ : ∃ k, (1 ≤ k ∧ k ≤ 5) ∧ v = I k := ⟨v.toInt.toNat, by omega, I_of (by omega)⟩
  subst k2
  have e : I k + 16 * I B = I (k + 16 * B) := by rw [show (16 : Int32) = I 16 from litI 16, I_mul, I_add]
  have ne : ¬ I (k + 16 * B) = 0 := by rw [I0, I_inj (by omega) (by omega)]; omega
  have c : f_X8_fail (I k) s = some (sQ5 (sI (sI s 36 9 (I (k + 16 * B))) 36 4 4) 0) := by
    unfold f_X8_fail
    rw [if_pos t3, ltb_t, ltb_t, ltb_t, t5.1, e]
  have m : f_X12_fails (I k) t = some (0, sI t 101 9 (I (k + 16 * B))) := by
    unfold f_X12_fails
    rw [ltb_t, t5.2, e]
  have e9 : (sQ5 (sI (sI s 36 9 (I (k + 16 * B))) 36 4 4) 0).1 36 9 = I (k + 16 * B) := by
    show (sI (sI s 36 9 (I (k + 16 * B))) 36 4 4).1 36 9 = _
    rw [sI_s, if_neg (by decide), sI_k]
  refine ⟨_, _, c, m, ⟨⟨?_, by show (sI (sI s 36 9 (I (k + 16 * B))) 36 4 4).1 36 4 = 4; rw [sI_k], rfl⟩, ?_⟩, ?_, fr_sI (by decide)⟩
  · rw [e9]; exact ne
  · rw [e9, sI_k]
  · exact (fr_sI (by decide)).trans ((fr_sI (by decide)).trans ⟨fun _ _ _ => rfl, fun _ _ _ => rfl, fun _ => rfl, fun _ => rfl, fun _ => rfl, fun _ => rfl, fun q => absurd q (by decide)⟩)
/-- may a name stand here -/
theorem TK.name (T : TK L B P s t) : (f_X8_isName s = some 1 ∧ f_X12_isKept t = 0 ∧ t.1 101 6 = 1 ∧ NMk (s.2.1 36 5) (t.2.1 101 7)) ∨ (f_X8_isName s = some 0 ∧ f_X12_isKept t = 1) := by
  obtain ⟨-, -, -, -, -, t6, K⟩ := T
  rw [kept_kc]
  unfold f_X8_isName
  rw [t6]
  have no : ¬ t.1 101 6 = 1 → ((if t.1 101 6 = 1 then gd (wob (s.2.2.2.2.2.2)) ((if (s.2.2.2.2.2.2) = 0 then some 1 else gd (wob (s.2.2.2.2.2.2)) (gd (woc (s.2.2.2.2.2.2)) ((if (onceL.getD (s.2.2.2.2.2.2 - 1000) 0) = (-1) then some 1 else some 0))))) else some 0) = some (1 : Int32) ∧ (if t.1 101 6 = 1 then kc KLs (t.2.1 101 7) else 1) = 0 ∧ t.1 101 6 = 1 ∧ NMk (s.2.1 36 5) (t.2.1 101 7)) ∨ ((if t.1 101 6 = 1 then gd (wob (s.2.2.2.2.2.2)) ((if (s.2.2.2.2.2.2) = 0 then some 1 else gd (wob (s.2.2.2.2.2.2)) (gd (woc (s.2.2.2.2.2.2)) ((if (onceL.getD (s.2.2.2.2.2.2 - 1000) 0) = (-1) then some 1 else some 0))))) else some 0) = some (0 : Int32) ∧ (if t.1 101 6 = 1 then kc KLs (t.2.1 101 7) else 1) = 1) := fun h => Or.inr ⟨if_neg h, if_neg h⟩
  rcases K with ⟨k1, -⟩ | ⟨k1, l, l1, l2, l3, l4, l5⟩ | ⟨k1, -⟩ | ⟨k1, -⟩ | ⟨k1, -⟩
  · exact no (by rw [k1]; decide)
  · have N : NMk (s.2.1 36 5) (t.2.1 101 7) := ⟨l, l1, l2, l3, l4⟩
    rw [if_pos k1, if_pos k1]
    rw [l3] at l5
    rcases kw_w l1 l2 with ⟨i, i1, i2, i3⟩ | ⟨i1, i2⟩
    · have e4 : t.2.1 101 7 = w27 i := by rw [l4]; exact (word_l l1 l2 i1).mpr i2
      have wo1 : wob (1000 + i) = true := by unfold wob; simp; omega
      have wo2 : woc (1000 + i) = true := by unfold woc; simp; omega
      rw [l5, i3, wo1, wo2, gd_t, gd_t, gd_t, if_neg (by omega), Nat.add_sub_cancel_left]
      by_cases z : onceL.getD i 0 = -1
      · rw [if_pos z]
        refine Or.inl ⟨rfl, ?_, k1, N⟩
        rcases kc_e KLs (t.2.1 101 7) with q | q
        · rw [e4] at q; exact absurd z ((KLs_j i i1).mp q.2)
        · exact q.1
      · rw [if_neg z]
        refine Or.inr ⟨rfl, ?_⟩
        rcases kc_e KLs (t.2.1 101 7) with q | q
        · exact q.1
        · rw [e4] at q; exact absurd ((KLs_j i i1).mpr z) q.2
    · rw [l5, i1, show wob 0 = true from by decide, gd_t, if_pos (Eq.refl _)]
      refine Or.inl ⟨rfl, ?_, k1, N⟩
      rcases kc_e KLs (t.2.1 101 7) with q | q
      · obtain ⟨j, j1, j2⟩ := KLs_m _ q.2
        rw [l4] at j2
        exact absurd ((word_l l1 l2 j1).mp j2) (i2 j j1)
      · exact q.1
  · exact no (by rw [k1]; decide)
  · exact no (by rw [k1]; decide)
  · exact no (by rw [k1]; decide)
/-- a sign -/
theorem TK.sign (T : TK L B P s t) (c : Int32) : f_X12_isSign c t = some (f_X8_isSign c s) ∧ (f_X8_isSign c s = 1 ↔ t.1 101 6 = 3 ∧ t.1 102 B = c) ∧ (f_X8_isSign c s = 0 ∨ f_X8_isSign c s = 1) := by
  obtain ⟨t1, t2, t3, t4, t5, t6, K⟩ := T
  have L1 := t1.1
  unfold f_X12_isSign f_X8_isSign
  rw [t6, t5.2]
  rcases K with ⟨k1, -⟩ | ⟨k1, -⟩ | ⟨k1, -⟩ | ⟨k1, k2, k3, k4⟩ | ⟨k1, -⟩
  · rw [if_neg (by rw [k1]; decide), if_neg (by rw [k1]; decide)]; exact ⟨rfl, ⟨fun q => absurd q (by decide), fun q => absurd q.1 (by rw [k1]; decide)⟩, Or.inl rfl⟩
  · rw [if_neg (by rw [k1]; decide), if_neg (by rw [k1]; decide)]; exact ⟨rfl, ⟨fun q => absurd q (by decide), fun q => absurd q.1 (by rw [k1]; decide)⟩, Or.inl rfl⟩
  · rw [if_neg (by rw [k1]; decide), if_neg (by rw [k1]; decide)]; exact ⟨rfl, ⟨fun q => absurd q (by decide), fun q => absurd q.1 (by rw [k1]; decide)⟩, Or.inl rfl⟩
  · rw [if_pos k1, if_pos k1, inb_t (by omega) (by omega), gd_t, I_nat (by omega), k4]
    by_cases z : t.1 102 B = c
    · rw [if_pos z, if_pos z]; exact ⟨rfl, ⟨fun _ => ⟨k1, z⟩, fun _ => rfl⟩, Or.inr rfl⟩
    · rw [if_neg z, if_neg z]; exact ⟨rfl, ⟨fun q => absurd q (by decide), fun q => absurd q.2 z⟩, Or.inl rfl⟩
  · rw [if_neg (by rw [k1]; decide), if_neg (by rw [k1]; decide)]; exact ⟨rfl, ⟨fun q => absurd q (by decide), fun q => absurd q.1 (by rw [k1]; decide)⟩, Or.inl rfl⟩
/-- a step of both: on with one token, or both fail; v is what it gives -/
def Onw (L P : Nat) (s t : HS) (x : Option HS) (y : Option (Int32 × HS)) : Prop :=
  (∃ B' P' s' t', x = some s' ∧ y = some (1, t') ∧ TK L B' P' s' t' ∧ P ≤ B' ∧ Fr LF1 s s' ∧ Fr LF2 t t') ∨ (∃ s' t', x = some s' ∧ y = some (0, t') ∧ BD s' t' ∧ Fr LF1 s s' ∧ Fr LF2 t t')
theorem TK.tword (T : TK L B P s t) {j : Nat} (hj : j < 37) : Onw L P s t (f_X8_take (1000 + j) s) (f_X12_needsWord (w27 j) t) := by
  obtain ⟨e1, e2, e3⟩ := T.word hj
  unfold f_X8_take f_X12_needsWord
  rw [e3, gd_t]
  by_cases z : s.2.2.2.2.2.2 = 1000 + j
  · obtain ⟨B', P', s', t', q1, q2, q3, q4, q5, q6⟩ := T.next
    rw [if_pos z, if_neg (by rw [e1.mp z]; decide), q1, q2, bnd_t, bnd_t]
    exact Or.inl ⟨B', P', s', t', rfl, rfl, q3, q4, q5.mono (by decide), q6.mono (by decide)⟩
  · obtain ⟨s', t', q1, q2, q3, q4, q5⟩ := T.fail (v := 1) (by decide)
    have : f_X12_isWord (w27 j) t = 0 := e2.resolve_right (fun q => z (e1.mpr q))
    rw [if_neg z, if_pos this, q1, q2, bnd_t, bnd2_t, show isb 0 = true from by decide, gd_t]
    exact Or.inr ⟨s', t', rfl, rfl, q3, q4, q5⟩
theorem TK.tsign (T : TK L B P s t) : Onw L P s t (f_X8_takeSign 59 s) (f_X12_closes t) := by
  obtain ⟨e1, e2, e3⟩ := T.sign 59
  unfold f_X8_takeSign f_X12_closes
  rw [e1, bnd_t]
  by_cases z : f_X8_isSign 59 s = 0
  · obtain ⟨s', t', q1, q2, q3, q4, q5⟩ := T.fail (v := 1) (by decide)
    rw [if_pos z, if_pos z, q1, q2, bnd_t, bnd2_t, show isb 0 = true from by decide, gd_t]
    exact Or.inr ⟨s', t', rfl, rfl, q3, q4, q5⟩
  · obtain ⟨B', P', s', t', q1, q2, q3, q4, q5, q6⟩ := T.next
    rw [if_neg z, if_neg z, q1, q2, bnd_t, bnd_t]
    exact Or.inl ⟨B', P', s', t', rfl, rfl, q3, q4, q5.mono (by decide), q6.mono (by decide)⟩
end TAKE
