/-! order's value: the class's codes -/
def g4 (a b c d : Int32) : Nat → Int32 := fun k => if k = 0 then a else if k = 1 then b else if k = 2 then c else d
def cbin (v x y : Int32) : Int32 := if v = -11 then x - y else if v = -10 then x + y else if v = -9 then (if x = y then 1 else 0) else if v = -8 then (if y ≤ x then 0 else 1) else if v = -7 then (if x = 0 then (if y = 0 then 0 else 1) else 1) else if v = -6 then (if x = 0 then 0 else if y = 0 then 0 else 1) else x * y
section CVAL
variable {p : Nat} {a b c d : Int32}
theorem vS_e (hp : okX4 p = true) : Rf (p + 2) 2 = p + 4 ∧ Rf (p + 2) 0 = p + 3 := by rcases okX4_c hp with rfl | rfl <;> decide
theorem cv_bin (hp : okX4 p = true) (K : Int32 → HS → Option (Int32 × HS)) {s : HS} {N h i f : Nat} {v : Int32} (e1 : s.1 (p + 2) 1 = I N) (hN : N ≤ 1000) (hi : i < N) (hh : h + 2 ≤ 32) (hv : s.1 (p + 3) i = v) (v1 : v < -4) (v2 : ¬ v = -5) : f_X2_value_l6 (p + 2) a b c d K (f + 1) (I (h + 2)) (I i) s = f_X2_value_l6 (p + 2) a b c d K f (I (h + 1)) (I (i + 1)) (sI s (p + 4) h (cbin v (s.1 (p + 4) h) (s.1 (p + 4) (h + 1)))) := by
  obtain ⟨q1, q2⟩ := vS_e hp
  have n1 : ¬ I N ≤ I i := by rw [I_le (by omega) (by omega)]; omega
  have n2 : ¬ I (h + 2) ≤ 1 := by rw [show (1 : Int32) = I 1 from litI 1, I_le (by omega) (by omega)]; omega
  have n3 : I (h + 2) + (-1) = I (h + 1) := by rw [show (-1 : Int32) = -(I 1) from by decide, ← Int32.sub_eq_add_neg, I_sub (by omega)]; rfl
  have n4 : I (h + 1) - 1 = I h := by rw [show (1 : Int32) = I 1 from litI 1, I_sub (by omega)]; rfl
  unfold cbin
  simp only [f_X2_value_l6, f_X2_value_l6b, f_X2_value_j358, e1, if_neg n1, inb_t (show i < 1000 from by omega) (by omega), gd_t, I_nat (show i < 2147483648 from by omega), q1, q2, hv, ltb_t, if_pos v1, if_neg v2, if_neg n2, n3, n4, inb_t (show h < 32 from by omega) (by omega), inb_t (show h + 1 < 32 from by omega) (by omega), I_nat (show h < 2147483648 from by omega), I_nat (show h + 1 < 2147483648 from by omega), I_p1]
  by_cases e11 : v = -11
  · simp only [if_pos e11]
  by_cases e10 : v = -10
  · simp only [if_neg e11, if_pos e10]
  by_cases e9 : v = -9
  · simp only [if_neg e11, if_neg e10, if_pos e9]
    by_cases z : s.1 (p + 4) h = s.1 (p + 4) (h + 1)
    · simp only [if_pos z]
    · simp only [if_neg z]
  by_cases e8 : v = -8
  · simp only [if_neg e11, if_neg e10, if_neg e9, if_pos e8]
    by_cases z : s.1 (p + 4) (h + 1) ≤ s.1 (p + 4) h
    · simp only [if_pos z]
    · simp only [if_neg z]
  by_cases e7 : v = -7
  · simp only [if_neg e11, if_neg e10, if_neg e9, if_neg e8, if_pos e7]
    by_cases z : s.1 (p + 4) h = 0
    · by_cases y : s.1 (p + 4) (h + 1) = 0
      · simp only [if_pos z, if_pos y]
      · simp only [if_pos z, if_neg y]
    · simp only [if_neg z]
  by_cases e6 : v = -6
  · simp only [if_neg e11, if_neg e10, if_neg e9, if_neg e8, if_neg e7, if_pos e6]
    by_cases z : s.1 (p + 4) h = 0
    · simp only [if_pos z]
    · by_cases y : s.1 (p + 4) (h + 1) = 0
      · simp only [if_neg z, if_pos y]
      · simp only [if_neg z, if_neg y]
  · simp only [if_neg e11, if_neg e10, if_neg e9, if_neg e8, if_neg e7, if_neg e6]
theorem cv_not (hp : okX4 p = true) (K : Int32 → HS → Option (Int32 × HS)) {s : HS} {N h i f : Nat} (e1 : s.1 (p + 2) 1 = I N) (hN : N ≤ 1000) (hi : i < N) (hh : h + 1 ≤ 32) (hv : s.1 (p + 3) i = -5) : f_X2_value_l6 (p + 2) a b c d K (f + 1) (I (h + 1)) (I i) s = f_X2_value_l6 (p + 2) a b c d K f (I (h + 1)) (I (i + 1)) (sI s (p + 4) h (if s.1 (p + 4) h = 0 then 1 else 0)) := by
  obtain ⟨q1, q2⟩ := vS_e hp
  have n1 : ¬ I N ≤ I i := by rw [I_le (by omega) (by omega)]; omega
  have n2 : ¬ I (h + 1) ≤ 0 := by rw [I0, I_le (by omega) (by omega)]; omega
  have n4 : I (h + 1) - 1 = I h := by rw [show (1 : Int32) = I 1 from litI 1, I_sub (by omega)]; rfl
  simp only [f_X2_value_l6, f_X2_value_l6b, f_X2_value_j358, e1, if_neg n1, inb_t (show i < 1000 from by omega) (by omega), gd_t, I_nat (show i < 2147483648 from by omega), q1, q2, hv, ltb_t, if_neg n2, n4, inb_t (show h < 32 from by omega) (by omega), I_nat (show h < 2147483648 from by omega), I_p1]
  rw [if_pos (by decide), if_pos (by decide)]
  by_cases z : s.1 (p + 4) h = 0
  · simp only [if_pos z]
  · simp only [if_neg z]
theorem cv_leaf (hp : okX4 p = true) (K : Int32 → HS → Option (Int32 × HS)) {s : HS} {N h i f : Nat} {v x : Int32} (e1 : s.1 (p + 2) 1 = I N) (hN : N ≤ 1000) (hi : i < N) (hh : h + 1 ≤ 32) (hv : s.1 (p + 3) i = v) (hx : (0 ≤ v.toInt ∧ x = v) ∨ (v = -1 ∧ x = a) ∨ (v = -2 ∧ x = b) ∨ (v = -3 ∧ x = c) ∨ (v = -4 ∧ x = d)) : f_X2_value_l6 (p + 2) a b c d K (f + 1) (I h) (I i) s = f_X2_value_l6 (p + 2) a b c d K f (I (h + 1)) (I (i + 1)) (sI s (p + 4) h x) := by
  obtain ⟨q1, q2⟩ := vS_e hp
  have n1 : ¬ I N ≤ I i := by rw [I_le (by omega) (by omega)]; omega
  have n2 : ¬ (32 : Int32) ≤ I h := by rw [show (32 : Int32) = I 32 from litI 32, I_le (by omega) (by omega)]; omega
  simp only [f_X2_value_l6, f_X2_value_l6b, f_X2_value_j358, e1, if_neg n1, inb_t (show i < 1000 from by omega) (by omega), gd_t, I_nat (show i < 2147483648 from by omega), q1, q2, hv, ltb_t, if_neg n2, inb_t (show h < 32 from by omega) (by omega), I_nat (show h < 2147483648 from by omega), I_p1]
  rcases hx with ⟨x1, rfl⟩ | ⟨rfl, rfl⟩ | ⟨rfl, rfl⟩ | ⟨rfl, rfl⟩ | ⟨rfl, rfl⟩
  · have i4 : (-4 : Int32).toInt = -4 := by decide
    have i0 : (0 : Int32).toInt = 0 := by decide
    rw [if_neg (by rw [Int32.lt_iff_toInt_lt, i4]; omega), if_neg (by rw [Int32.lt_iff_toInt_lt, i0]; omega)]
  · rw [if_neg (by decide), if_pos (by decide), if_pos (by decide)]
  · rw [if_neg (by decide), if_pos (by decide), if_neg (by decide), if_pos (by decide)]
  · rw [if_neg (by decide), if_pos (by decide), if_neg (by decide), if_neg (by decide), if_pos (by decide)]
  · rw [if_neg (by decide), if_pos (by decide), if_neg (by decide), if_neg (by decide), if_neg (by decide)]
def CVq (p : Nat) (a b c d : Int32) : OQ := fun l dd C _ E => dd ≤ 4 ∧ ∀ (s : HS) (N i h : Nat), s.1 (p + 2) 1 = I N → N ≤ 1000 → i + C.length ≤ N → h + (4 * (4 - dd) + l + 1) ≤ 32 → (∀ j, j < C.length → s.1 (p + 3) (i + j) = C.getD j 0) → ∃ s', (∀ K f, f_X2_value_l6 (p + 2) a b c d K (f + C.length) (I h) (I i) s = f_X2_value_l6 (p + 2) a b c d K f (I (h + 1)) (I (i + C.length)) s') ∧ s'.1 (p + 4) h = E (g4 a b c d) ∧ (∀ j, j < h → s'.1 (p + 4) j = s.1 (p + 4) j) ∧ (∀ o, o ≠ p + 4 → s'.1 o = s.1 o)
theorem getD_app (C D : List Int32) (j : Nat) : (C ++ D).getD j 0 = if j < C.length then C.getD j 0 else D.getD (j - C.length) 0 := by
  induction C generalizing j with
  | nil => rw [if_neg (by simp)]; rfl
  | cons x C ih =>
    cases j with
    | zero => rw [if_pos (by simp)]; rfl
    | succ j =>
      show (C ++ D).getD j 0 = _
      rw [ih j]
      by_cases z : j < C.length
      · rw [if_pos z, if_pos (by simp; omega)]; rfl
      · rw [if_neg z, if_neg (by simp; omega)]
        simp
theorem CVq.up {l l' dd : Nat} {C R : List Int32} {E : OF} (hl : l ≤ l') (h : CVq p a b c d l dd C R E) : CVq p a b c d l' dd C R E := ⟨h.1, fun s N i k e1 e2 e3 e4 e5 => h.2 s N i k e1 e2 e3 (by omega) e5⟩
theorem CVq.bin (hp : okX4 p = true) {l l0 l1 dd : Nat} {C R C' R' R2 : List Int32} {E E' E2 : OF} {v : Int32} (v1 : v < -4) (v2 : ¬ v = -5) (h0 : l0 ≤ l) (h1 : l1 < l) (hE : E2 (g4 a b c d) = cbin v (E (g4 a b c d)) (E' (g4 a b c d))) (x : CVq p a b c d l0 dd C R E) (y : CVq p a b c d l1 dd C' R' E') : CVq p a b c d l dd (C ++ (C' ++ [v])) R2 E2 := by
  refine ⟨x.1, fun s N i h e1 e2 e3 e4 e5 => ?_⟩
  have len : (C ++ (C' ++ [v])).length = C.length + C'.length + 1 := by simp only [List.length_append, List.length_cons, List.length_nil]; omega
  rw [len] at e3 e5
  obtain ⟨s1, a1, a2, a3, a4⟩ := x.2 s N i h e1 e2 (by omega) (by omega) (fun j hj => by rw [e5 j (by omega), getD_app, if_pos hj])
  obtain ⟨s2, b1, b2, b3, b4⟩ := y.2 s1 N (i + C.length) (h + 1) (by rw [a4 _ (by omega)]; exact e1) e2 (by omega) (by omega) (fun j hj => by rw [a4 _ (by omega), Nat.add_assoc, e5 _ (by omega), getD_app, if_neg (by omega), Nat.add_sub_cancel_left, getD_app, if_pos hj])
  have c1 : s2.1 (p + 3) (i + C.length + C'.length) = v := by
    rw [b4 _ (by omega), a4 _ (by omega), show i + C.length + C'.length = i + (C.length + C'.length) from by omega, e5 _ (by omega), getD_app, if_neg (by omega), Nat.add_sub_cancel_left, getD_app, if_neg (by omega), Nat.sub_self]
    rfl
  refine ⟨sI s2 (p + 4) h (cbin v (s2.1 (p + 4) h) (s2.1 (p + 4) (h + 1))), fun K f => ?_, ?_, fun j hj => ?_, fun o ho => ?_⟩
  · rw [len, show f + (C.length + C'.length + 1) = ((f + 1) + C'.length) + C.length from by omega, a1, b1]
    rw [cv_bin hp K (N := N) (v := v) (by rw [b4 _ (by omega), a4 _ (by omega)]; exact e1) e2 (by omega) (by omega) c1 v1 v2]
    rw [show i + C.length + C'.length + 1 = i + (C.length + C'.length + 1) from by omega]
  · rw [sI_k, b2, b3 h (by omega), a2, hE]
  · rw [sI_s, if_neg (by omega), b3 j (by omega), a3 j hj]
  · rw [sI_n _ _ _ ho, b4 o ho, a4 o ho]
theorem cv_all (hp : okX4 p = true) {l dd : Nat} {C R : List Int32} {E : OF} (H : PR l dd C R E) : CVq p a b c d l dd C R E := by
  refine H (CVq p a b c d) ⟨?_, ?_, ?_, ?_, ?_, ?_, ?_, ?_, ?_, ?_, ?_, ?_, ?_, ?_, ?_⟩
  · intro dd N h1 h2
    refine ⟨h1, fun s M i h e1 e2 e3 e4 e5 => ?_⟩
    have e3 : i + 1 ≤ M := e3
    refine ⟨sI s (p + 4) h (I N), fun K f => ?_, sI_k _ _ _ _, fun j hj => by rw [sI_s, if_neg (by omega)], fun o ho => sI_n _ _ _ ho⟩
    exact cv_leaf hp K e1 e2 (by omega) (by omega) (e5 0 (by show 0 < 1; omega)) (Or.inl ⟨by rw [show [I N].getD 0 0 = I N from rfl, I_toInt (by omega)]; omega, rfl⟩)
  · intro dd k h1 h2
    refine ⟨h1, fun s M i h e1 e2 e3 e4 e5 => ?_⟩
    have e3 : i + 1 ≤ M := e3
    refine ⟨sI s (p + 4) h (g4 a b c d k), fun K f => ?_, sI_k _ _ _ _, fun j hj => by rw [sI_s, if_neg (by omega)], fun o ho => sI_n _ _ _ ho⟩
    refine cv_leaf hp K e1 e2 (by omega) (by omega) (e5 0 (by show 0 < 1; omega)) (Or.inr ?_)
    rcases (show k = 0 ∨ k = 1 ∨ k = 2 ∨ k = 3 from by omega) with rfl | rfl | rfl | rfl
    · exact Or.inl ⟨by decide, rfl⟩
    · exact Or.inr (Or.inl ⟨by decide, rfl⟩)
    · exact Or.inr (Or.inr (Or.inl ⟨by decide, rfl⟩))
    · exact Or.inr (Or.inr (Or.inr ⟨by decide, rfl⟩))
  · intro dd C R E x
    refine ⟨by have := x.1; omega, fun s N i h e1 e2 e3 e4 e5 => ?_⟩
    have x1 := x.1
    have len : (C ++ [(-5 : Int32)]).length = C.length + 1 := by simp
    rw [len] at e3 e5
    obtain ⟨s1, a1, a2, a3, a4⟩ := x.2 s N i h e1 e2 (by omega) (by omega) (fun j hj => by rw [e5 j (by omega), getD_app, if_pos hj])
    have c1 : s1.1 (p + 3) (i + C.length) = -5 := by
      rw [a4 _ (by omega), e5 _ (by omega), getD_app, if_neg (by omega), Nat.sub_self]; rfl
    refine ⟨sI s1 (p + 4) h (if s1.1 (p + 4) h = 0 then 1 else 0), fun K f => ?_, ?_, fun j hj => ?_, fun o ho => ?_⟩
    · rw [len, show f + (C.length + 1) = (f + 1) + C.length from by omega, a1, cv_not hp K (N := N) (by rw [a4 _ (by omega)]; exact e1) e2 (by omega) (by omega) c1]
      rw [show i + C.length + 1 = i + (C.length + 1) from by omega]
    · rw [sI_k, a2]
    · rw [sI_s, if_neg (by omega), a3 j hj]
    · rw [sI_n _ _ _ ho, a4 o ho]
  · intro dd C R E x
    have x1 := x.1
    exact ⟨by omega, fun s N i h e1 e2 e3 e4 e5 => x.2 s N i h e1 e2 e3 (by omega) e5⟩
  · intro dd C R E x; exact x.up (by omega)
  · intro dd C R E x; exact x.up (by omega)
  · intro dd C R E x; exact x.up (by omega)
  · intro dd C R E x; exact x.up (by omega)
  · intro dd C R C' R' E E' x y; exact x.bin hp (by decide) (by decide) (by omega) (by omega) rfl y
  · intro dd C R C' R' E E' x y; exact x.bin hp (by decide) (by decide) (by omega) (by omega) rfl y
  · intro dd C R C' R' E E' x y; exact x.bin hp (by decide) (by decide) (by omega) (by omega) rfl y
  · intro dd C R C' R' E E' x y; exact x.bin hp (by decide) (by decide) (by omega) (by omega) rfl y
  · intro dd C R C' R' E E' x y; exact x.bin hp (by decide) (by decide) (by omega) (by omega) rfl y
  · intro dd C R C' R' E E' x y; exact x.bin hp (by decide) (by decide) (by omega) (by omega) rfl y
  · intro dd C R C' R' E E' x y; exact x.bin hp (by decide) (by decide) (by omega) (by omega) rfl y
theorem OCv_of (hp : okX4 p = true) {C R : List Int32} {E : OF} (H : PR 4 0 C R E) {s : HS} (h : CCs p C s) (hl : C.length ≤ 1000) : OCv (Rf p 8) (fun a b c d => E (g4 a b c d)) s := by
  intro s' a b c d f1 f2
  obtain ⟨q1, q2, -⟩ := qS_e hp
  rw [q1] at f1 f2 ⊢
  rw [q2] at f2
  obtain ⟨h1, h2⟩ := h
  obtain ⟨s2, a1, a2, -, a4⟩ := (cv_all (a := a) (b := b) (c := c) (d := d) hp H).2 s' C.length 0 0 (by rw [f1]; exact h1) hl (by omega) (by omega) (fun j hj => by rw [f2, Nat.zero_add]; exact h2 j hj)
  refine ⟨s2, ?_⟩
  unfold f_X2_value
  have := a1 (fun v78 s79 => (if v78 ≤ 0 then some (0, s79) else some (s79.1 (Rf (p + 2) 2) 0, s79))) (4999 - C.length + 1)
  rw [show 4999 - C.length + 1 + C.length = FU from by show _ = 5000; omega, I_e0] at this
  rw [this, Nat.zero_add, Nat.zero_add]
  simp only [f_X2_value_l6, f_X2_value_l6b]
  rw [a4 _ (by omega), f1, h1, if_pos (Int32.le_refl _), if_neg (by decide), (vS_e hp).1, a2]
end CVAL
