/-! order: what is read, in the class's order of codes and in the reference's, with its value -/
abbrev OF : Type := (Nat → Int32) → Int32
abbrev OQ : Type := Nat → Nat → List Int32 → List Int32 → OF → Prop
def CLQ (Q : OQ) : Prop :=
  (∀ (d N : Nat), d ≤ 4 → N < 10000 → Q 0 d [I N] [I (100 + N)] (fun _ => I N)) ∧
  (∀ (d k : Nat), d ≤ 4 → k < 4 → Q 0 d [-(I (k + 1))] [I (k + 1)] (fun g => g k)) ∧
  (∀ (d : Nat) (C R : List Int32) (E : OF), Q 0 (d + 1) C R E → Q 0 d (C ++ [-5]) (30 :: R) (fun g => if E g = 0 then 1 else 0)) ∧
  (∀ (d : Nat) (C R : List Int32) (E : OF), Q 4 (d + 1) C R E → Q 0 d C (28 :: (R ++ [29])) E) ∧
  (∀ (d : Nat) (C R : List Int32) (E : OF), Q 0 d C R E → Q 1 d C R E) ∧
  (∀ (d : Nat) (C R : List Int32) (E : OF), Q 1 d C R E → Q 2 d C R E) ∧
  (∀ (d : Nat) (C R : List Int32) (E : OF), Q 2 d C R E → Q 3 d C R E) ∧
  (∀ (d : Nat) (C R : List Int32) (E : OF), Q 3 d C R E → Q 4 d C R E) ∧
  (∀ (d : Nat) (C R C' R' : List Int32) (E E' : OF), Q 1 d C R E → Q 0 d C' R' E' → Q 1 d (C ++ (C' ++ [-12])) (R ++ 22 :: R') (fun g => E g * E' g)) ∧
  (∀ (d : Nat) (C R C' R' : List Int32) (E E' : OF), Q 2 d C R E → Q 1 d C' R' E' → Q 2 d (C ++ (C' ++ [-10])) (R ++ 20 :: R') (fun g => E g + E' g)) ∧
  (∀ (d : Nat) (C R C' R' : List Int32) (E E' : OF), Q 2 d C R E → Q 1 d C' R' E' → Q 2 d (C ++ (C' ++ [-11])) (R ++ 21 :: R') (fun g => E g - E' g)) ∧
  (∀ (d : Nat) (C R C' R' : List Int32) (E E' : OF), Q 2 d C R E → Q 2 d C' R' E' → Q 3 d (C ++ (C' ++ [-8])) (R ++ 24 :: R') (fun g => if E' g ≤ E g then 0 else 1)) ∧
  (∀ (d : Nat) (C R C' R' : List Int32) (E E' : OF), Q 2 d C R E → Q 2 d C' R' E' → Q 3 d (C ++ (C' ++ [-9])) (R ++ 25 :: R') (fun g => if E g = E' g then 1 else 0)) ∧
  (∀ (d : Nat) (C R C' R' : List Int32) (E E' : OF), Q 4 d C R E → Q 3 d C' R' E' → Q 4 d (C ++ (C' ++ [-6])) (R ++ 26 :: R') (fun g => if E g = 0 then 0 else if E' g = 0 then 0 else 1)) ∧
  (∀ (d : Nat) (C R C' R' : List Int32) (E E' : OF), Q 4 d C R E → Q 3 d C' R' E' → Q 4 d (C ++ (C' ++ [-7])) (R ++ 27 :: R') (fun g => if E g = 0 then (if E' g = 0 then 0 else 1) else 1))
def PR : OQ := fun l d C R E => ∀ Q : OQ, CLQ Q → Q l d C R E
theorem PR.num {d N : Nat} (h1 : d ≤ 4) (h2 : N < 10000) : PR 0 d [I N] [I (100 + N)] (fun _ => I N) := fun Q h => h.1 d N h1 h2
theorem PR.fact {d k : Nat} (h1 : d ≤ 4) (h2 : k < 4) : PR 0 d [-(I (k + 1))] [I (k + 1)] (fun g => g k) := fun Q h => h.2.1 d k h1 h2
section PRS
variable {d : Nat} {C R C' R' : List Int32} {E E' : OF}
theorem PR.nt (a : PR 0 (d + 1) C R E) : PR 0 d (C ++ [-5]) (30 :: R) (fun g => if E g = 0 then 1 else 0) := fun Q h => h.2.2.1 _ _ _ _ (a Q h)
theorem PR.par (a : PR 4 (d + 1) C R E) : PR 0 d C (28 :: (R ++ [29])) E := fun Q h => h.2.2.2.1 _ _ _ _ (a Q h)
theorem PR.up0 (a : PR 0 d C R E) : PR 1 d C R E := fun Q h => h.2.2.2.2.1 _ _ _ _ (a Q h)
theorem PR.up1 (a : PR 1 d C R E) : PR 2 d C R E := fun Q h => h.2.2.2.2.2.1 _ _ _ _ (a Q h)
theorem PR.up2 (a : PR 2 d C R E) : PR 3 d C R E := fun Q h => h.2.2.2.2.2.2.1 _ _ _ _ (a Q h)
theorem PR.up3 (a : PR 3 d C R E) : PR 4 d C R E := fun Q h => h.2.2.2.2.2.2.2.1 _ _ _ _ (a Q h)
theorem PR.mul (a : PR 1 d C R E) (b : PR 0 d C' R' E') : PR 1 d (C ++ (C' ++ [-12])) (R ++ 22 :: R') (fun g => E g * E' g) := fun Q h => h.2.2.2.2.2.2.2.2.1 _ _ _ _ _ _ _ (a Q h) (b Q h)
theorem PR.add (a : PR 2 d C R E) (b : PR 1 d C' R' E') : PR 2 d (C ++ (C' ++ [-10])) (R ++ 20 :: R') (fun g => E g + E' g) := fun Q h => h.2.2.2.2.2.2.2.2.2.1 _ _ _ _ _ _ _ (a Q h) (b Q h)
theorem PR.sub (a : PR 2 d C R E) (b : PR 1 d C' R' E') : PR 2 d (C ++ (C' ++ [-11])) (R ++ 21 :: R') (fun g => E g - E' g) := fun Q h => h.2.2.2.2.2.2.2.2.2.2.1 _ _ _ _ _ _ _ (a Q h) (b Q h)
theorem PR.lt (a : PR 2 d C R E) (b : PR 2 d C' R' E') : PR 3 d (C ++ (C' ++ [-8])) (R ++ 24 :: R') (fun g => if E' g ≤ E g then 0 else 1) := fun Q h => h.2.2.2.2.2.2.2.2.2.2.2.1 _ _ _ _ _ _ _ (a Q h) (b Q h)
theorem PR.eq (a : PR 2 d C R E) (b : PR 2 d C' R' E') : PR 3 d (C ++ (C' ++ [-9])) (R ++ 25 :: R') (fun g => if E g = E' g then 1 else 0) := fun Q h => h.2.2.2.2.2.2.2.2.2.2.2.2.1 _ _ _ _ _ _ _ (a Q h) (b Q h)
theorem PR.and (a : PR 4 d C R E) (b : PR 3 d C' R' E') : PR 4 d (C ++ (C' ++ [-6])) (R ++ 26 :: R') (fun g => if E g = 0 then 0 else if E' g = 0 then 0 else 1) := fun Q h => h.2.2.2.2.2.2.2.2.2.2.2.2.2.1 _ _ _ _ _ _ _ (a Q h) (b Q h)
theorem PR.or (a : PR 4 d C R E) (b : PR 3 d C' R' E') : PR 4 d (C ++ (C' ++ [-7])) (R ++ 27 :: R') (fun g => if E g = 0 then (if E' g = 0 then 0 else 1) else 1) := fun Q h => h.2.2.2.2.2.2.2.2.2.2.2.2.2.2 _ _ _ _ _ _ _ (a Q h) (b Q h)
end PRS
theorem PR.d4 {l d : Nat} {C R : List Int32} {E : OF} (h : PR l d C R E) : d ≤ 4 := h (fun _ d _ _ _ => d ≤ 4) ⟨fun _ _ h _ => h, fun _ _ h _ => h, fun _ _ _ _ h => by omega, fun _ _ _ _ h => by omega, fun _ _ _ _ h => h, fun _ _ _ _ h => h, fun _ _ _ _ h => h, fun _ _ _ _ h => h, fun _ _ _ _ _ _ _ h _ => h, fun _ _ _ _ _ _ _ h _ => h, fun _ _ _ _ _ _ _ h _ => h, fun _ _ _ _ _ _ _ h _ => h, fun _ _ _ _ _ _ _ h _ => h, fun _ _ _ _ _ _ _ h _ => h, fun _ _ _ _ _ _ _ h _ => h⟩
/-- the codes told so far -/
def CCs (p : Nat) (C : List Int32) (s : HS) : Prop := s.1 (p + 2) 1 = I C.length ∧ ∀ i, i < C.length → s.1 (p + 3) i = C.getD i 0
def RCs (R : List Int32) (t : HS) : Prop := t.1 101 30 = I (1000 + R.length) ∧ ∀ i, i < R.length → t.1 122 (1000 + i) = R.getD i 0
theorem getD_snoc (C : List Int32) (v : Int32) : ∀ i, (C ++ [v]).getD i 0 = if i = C.length then v else C.getD i 0 := by
  induction C with
  | nil => intro i; cases i <;> rfl
  | cons a C ih =>
    intro i
    cases i with
    | zero => rw [if_neg (by simp)]; rfl
    | succ i => 
      show (C ++ [v]).getD i 0 = _
      rw [ih i]
      by_cases z : i = C.length
      · rw [if_pos z, if_pos (by simp [z])]
      · rw [if_neg z, if_neg (by simp [z])]; rfl
section CODES
variable {p L B P : Nat} {s t : HS} {C R : List Int32}
theorem CCs.cg {s' : HS} (h : CCs p C s) (e1 : s'.1 (p + 2) = s.1 (p + 2)) (e2 : s'.1 (p + 3) = s.1 (p + 3)) : CCs p C s' := by
  unfold CCs; rw [e1, e2]; exact h
theorem CCs.fr {s' : HS} {A : List (Nat × Nat)} (h : CCs p C s) (hp : okX4 p = true) (f : Fr A s s') (e : wo A 4 = false ∧ wo A 5 = false ∧ wo A 40 = false ∧ wo A 41 = false) : CCs p C s' := by
  rcases okX4_c hp with rfl | rfl
  · exact h.cg (f.o e.1) (f.o e.2.1)
  · exact h.cg (f.o e.2.2.1) (f.o e.2.2.2)
theorem RCs.cg {t' : HS} (h : RCs R t) (e1 : t'.1 101 30 = t.1 101 30) (e2 : t'.1 122 = t.1 122) : RCs R t' := by
  unfold RCs; rw [e1, e2]; exact h
theorem RCs.fr {t' : HS} {A : List (Nat × Nat)} (h : RCs R t) (f : Fr A t t') (e : wm A 101 30 = false ∧ wo A 122 = false) : RCs R t' := h.cg (f.1 _ _ e.1) (f.o e.2)
theorem qS_e (hp : okX4 p = true) : Rf p 8 = p + 2 ∧ Rf (p + 2) 0 = p + 3 ∧ p + 2 ≠ 36 ∧ p + 2 ≠ 37 ∧ p + 3 ≠ 36 ∧ p + 3 ≠ 37 := by rcases okX4_c hp with rfl | rfl <;> decide
theorem c_add (hp : okX4 p = true) (h : CCs p C s) (hl : C.length < 1000) (v : Int32) : ∃ s', f_X2_add (p + 2) v s = some s' ∧ CCs p (C ++ [v]) s' ∧ s' = sI (sI s (p + 3) C.length v) (p + 2) 1 (I (C.length + 1)) := by
  obtain ⟨q1, q2, -⟩ := qS_e hp
  obtain ⟨h1, h2⟩ := h
  refine ⟨_, ?_, ⟨?_, ?_⟩, rfl⟩
  · unfold f_X2_add
    rw [h1, if_neg (by rw [show (1000 : Int32) = I 1000 from litI 1000, I_le (by omega) (by omega)]; omega), inb_t hl (by omega), gd_t, ltb_t, ltb_t, I_nat (by omega), q2]
    rw [sI_n _ _ _ (show p + 2 ≠ p + 3 from by omega), h1, I_p1]
  · rw [sI_k, List.length_append]; rfl
  · intro i hi
    rw [sI_n _ _ _ (show p + 3 ≠ p + 2 from by omega), sI_s, getD_snoc]
    by_cases z : i = C.length
    · rw [if_pos z, if_pos z]
    · rw [if_neg z, if_neg z]
      rw [List.length_append] at hi
      exact h2 i (by simp at hi; omega)
theorem m_puts (h : RCs R t) (hl : R.length < 1000) (v : Int32) : ∃ t', f_X12_puts v t = some t' ∧ RCs (R ++ [v]) t' ∧ t' = sI (sI t 122 (1000 + R.length) v) 101 30 (I (1000 + (R.length + 1))) := by
  obtain ⟨h1, h2⟩ := h
  refine ⟨_, ?_, ⟨?_, ?_⟩, rfl⟩
  · unfold f_X12_puts
    rw [h1, inb_t (by omega) (by omega), gd_t, ltb_t, ltb_t, I_nat (by omega)]
    rw [sI_n _ _ _ (show 101 ≠ 122 from by decide), h1, I_p1]
    rfl
  · rw [sI_k, List.length_append]; rfl
  · intro i hi
    rw [sI_n _ _ _ (show 122 ≠ 101 from by decide), sI_s, getD_snoc]
    by_cases z : i = R.length
    · rw [if_pos (by omega), if_pos z]
    · rw [if_neg (by omega), if_neg z]
      rw [List.length_append] at hi
      exact h2 i (by simp at hi; omega)
/-- failed: the count of codes is a count still -/
def DC (p : Nat) (s : HS) : Prop := Dd s ∧ ∃ m, m ≤ 1000 ∧ s.1 (p + 2) 1 = I m
theorem DC.add (hp : okX4 p = true) (D : DC p s) (v : Int32) : ∃ s', f_X2_add (p + 2) v s = some s' ∧ DC p s' ∧ s'.1 36 9 = s.1 36 9 := by
  obtain ⟨q1, q2, q3, q4, q5, q6⟩ := qS_e hp
  obtain ⟨d1, m, m1, m2⟩ := D
  unfold f_X2_add
  by_cases z : m = 1000
  · refine ⟨s, ?_, ⟨d1, m, m1, m2⟩, rfl⟩
    rw [m2, if_pos (by rw [show (1000 : Int32) = I 1000 from litI 1000, I_le (by omega) (by omega)]; omega)]
  · refine ⟨sI (sI s (p + 3) m v) (p + 2) 1 (I (m + 1)), ?_, ⟨(d1.sI q5).sI q3, m + 1, by omega, sI_k _ _ _ _⟩, ?_⟩
    · rw [m2, if_neg (by rw [show (1000 : Int32) = I 1000 from litI 1000, I_le (by omega) (by omega)]; omega), inb_t (by omega) (by omega), gd_t, ltb_t, ltb_t, I_nat (by omega), q2]
      rw [sI_n _ _ _ (show p + 2 ≠ p + 3 from by omega), m2, I_p1]
    · rw [sI_n _ _ _ (Ne.symm q3), sI_n _ _ _ (Ne.symm q5)]
end CODES
/-- how far the reference has come in its loop: d open, v = 1 where a part is wanted -/
def popd (g : Nat → Int32) : Nat → Nat
  | 0 => 0
  | d + 1 => if g (d + 1) = 1 then popd g d else d + 1
theorem popd_le (g : Nat → Int32) : ∀ d, popd g d ≤ d := by
  intro d
  induction d with
  | zero => exact Nat.le_refl _
  | succ d ih =>
    show (if g (d + 1) = 1 then popd g d else d + 1) ≤ d + 1
    split
    · omega
    · omega
theorem popd_cg {g g' : Nat → Int32} : ∀ {d : Nat}, (∀ j, j ≤ d → g' j = g j) → popd g' d = popd g d := by
  intro d
  induction d with
  | zero => intro _; rfl
  | succ d ih =>
    intro h
    show (if g' (d + 1) = 1 then popd g' d else d + 1) = (if g (d + 1) = 1 then popd g d else d + 1)
    rw [h (d + 1) (by omega), ih (fun j hj => h j (by omega))]
theorem popd_pop (g : Nat → Int32) : ∀ d, popd g (popd g d) = popd g d := by
  intro d
  induction d with
  | zero => rfl
  | succ d ih =>
    by_cases z : g (d + 1) = 1
    · rw [show popd g (d + 1) = popd g d from if_pos z]; exact ih
    · rw [show popd g (d + 1) = d + 1 from if_neg z]; exact if_neg z
def KK (v : Int32) (s : HS) : Option (Int32 × HS) := f_X12_reads_j399 v s
def GoOn (L B B' d v d' v' : Nat) (t t' : HS) : Prop := ∀ f, L - B < f → ∃ f', L - B' < f' ∧ f_X12_reads_l11 KK f (I d) (I v) t = f_X12_reads_l11 KK f' (I d') (I v') t'
def Ends (L B d v : Nat) (t t' : HS) : Prop := ∀ f, L - B < f → f_X12_reads_l11 KK f (I d) (I v) t = some (0, t')
theorem GoOn.trans {L B B1 B2 d v d1 v1 d2 v2 : Nat} {t t1 t2 : HS} (h : GoOn L B B1 d v d1 v1 t t1) (g : GoOn L B1 B2 d1 v1 d2 v2 t1 t2) : GoOn L B B2 d v d2 v2 t t2 := fun f hf => by
  obtain ⟨f1, a1, a2⟩ := h f hf
  obtain ⟨f2, b1, b2⟩ := g f1 a1
  exact ⟨f2, b1, a2.trans b2⟩
theorem GoOn.ends {L B B1 d v d1 v1 : Nat} {t t1 t2 : HS} (h : GoOn L B B1 d v d1 v1 t t1) (g : Ends L B1 d1 v1 t1 t2) : Ends L B d v t t2 := fun f hf => by
  obtain ⟨f1, a1, a2⟩ := h f hf
  exact a2.trans (g f1 a1)
def Neg (l d : Nat) (s t : HS) : Prop := (1 ≤ l → f_X8_isSign 42 s = 0) ∧ (2 ≤ l → f_X8_isSign 43 s = 0 ∧ f_X8_isSign 45 s = 0) ∧ (3 ≤ l → t.1 124 d = 0 → f_X8_isSign 60 s = 0 ∧ f_X8_isSign 61 s = 0) ∧ (4 ≤ l → ¬ s.2.2.2.2.2.2 = 1031 ∧ ¬ s.2.2.2.2.2.2 = 1032)
/-- read well: the codes of both, where both stand -/
def Okk (p L l d k B v : Nat) (C R : List Int32) (t s' : HS) : Prop :=
  ∃ B' P' t' C' R' E, TK L B' P' s' t' ∧ B ≤ B' ∧ CCs p (C ++ C') s' ∧ RCs (R ++ R') t' ∧ ((C ++ C').length + k ≤ B' ∧ (R ++ R').length ≤ B') ∧ PR l d C' R' E ∧ ((∀ j, j ≤ d → t'.1 123 j = t.1 123 j) ∧ (∀ j, j ≤ d → (j < d ∨ l < 3) → t'.1 124 j = t.1 124 j) ∧ (t'.1 124 d = 0 ∨ t'.1 124 d = 1) ∧ ∀ j, j < 1000 → t'.1 122 j = t.1 122 j) ∧ Neg l d s' t' ∧ GoOn L B B' d v (popd (t.1 123) d) 0 t t'
def Bad (p L d B v : Nat) (t s' : HS) : Prop := ∃ t', BD s' t' ∧ DC p s' ∧ (∀ j, j < 1000 → t'.1 122 j = t.1 122 j) ∧ Ends L B d v t t'
