/-! Changes by hand, and back -/
theorem mul3 {m : Nat} : I m * (3 : Int32) = I (3 * m) := by rw [show (3 : Int32) = I 3 from litI 3, I_mul, Nat.mul_comm]
theorem mul9 {m : Nat} : (9 : Int32) * I m = I (9 * m) := by rw [show (9 : Int32) = I 9 from litI 9, I_mul]
theorem I_p1 {m : Nat} : I m + (1 : Int32) = I (m + 1) := I_succ m
theorem I_p2 {m : Nat} : I m + (2 : Int32) = I (m + 2) := by rw [show (2 : Int32) = I 2 from litI 2, I_add]
theorem I_p9 {m : Nat} : I m + (9 : Int32) = I (m + 9) := by rw [show (9 : Int32) = I 9 from litI 9, I_add]
theorem UNi.cg {h n : Nat} {st : Int} {w x y w' x' y' : Int32} {R R' S S' : Nat → Int32} (U : UNi h n st w x y R R') (e1 : w' = w) (e2 : x' = x) (e3 : y' = y) (hh : h ≤ 5) (e4 : ∀ q, q < 9 → S q = R q) (e5 : ∀ q, q < 9 → S' q = R' q) : UNi h n st w' x' y' S S' := by
  subst e1; subst e2; subst e3
  have c : ∀ k, (∀ q, q < 9 → q ≠ k → R q = R' q) → ∀ q, q < 9 → q ≠ k → S q = S' q := fun k H q h1 h2 => by rw [e4 q h1, e5 q h1]; exact H q h1 h2
  rcases U with ⟨u1, u2, u3⟩ | ⟨u1, u2, u3⟩ | ⟨u1, u2, u3⟩ | ⟨u1, k, k1, k2, k3, k4⟩ | ⟨u1, k, k1, k2, k3, k4, k5, k6⟩
  · exact Or.inl ⟨u1, by rw [e4 1 (by omega)]; exact u2, c 1 u3⟩
  · exact Or.inr (Or.inl ⟨u1, by rw [e4 2 (by omega)]; exact u2, c 2 u3⟩)
  · exact Or.inr (Or.inr (Or.inl ⟨u1, by rw [e4 3 (by omega)]; exact u2, c 3 u3⟩))
  · exact Or.inr (Or.inr (Or.inr (Or.inl ⟨u1, k, k1, k2, by rw [e4 (4 + k) (by omega)]; exact k3, c (4 + k) k4⟩)))
  · exact Or.inr (Or.inr (Or.inr (Or.inr ⟨u1, k, k1, k2, by rw [e4 0 (by omega), e5 0 (by omega)]; exact k3, by rw [e4 0 (by omega)]; exact k4, by rw [e4 0 (by omega)]; exact k5, c 0 k6⟩)))
section HAND
variable {p d c h n a : Nat} {s t : HS}
theorem HR.c9 {t' : HS} (A : HR a h n s t) (hh : h ≤ 5) (e1 : ∀ q, q < 9 → t'.1 145 q = t.1 145 q) (e2 : t'.1 103 = t.1 103) : HR a h n s t' := by
  obtain ⟨a1, a2, a3, a4, a5, a6⟩ := A
  refine ⟨a1, by rw [e1 0 (by omega)]; exact a2, by rw [e1 1 (by omega), e2]; exact a3, by rw [e1 2 (by omega)]; exact a4, by rw [e1 3 (by omega)]; exact a5, fun i hi => by rw [e1 (4 + i) (by omega)]; exact a6 i hi⟩
theorem r_copies {o b o' b' : Nat} (hb : b + 9 ≤ (sk o).2) (hb' : b' + 9 ≤ (sk o').2) (l1 : (sk o).2 ≤ 5000) (l2 : (sk o').2 ≤ 5000) (ne : o ≠ o') (t : HS) :
    ∃ t', f_X12_copies o (I b) o' (I b') t = some t' ∧ Fr [(o', 0)] t t' ∧ (∀ q, q < 9 → t'.1 o' (b' + q) = t.1 o (b + q)) ∧ ∀ j, j < b' ∨ b' + 9 ≤ j → t'.1 o' j = t.1 o' j := by
  have key : ∀ e k, k + e = 9 → ∀ t1, Fr [(o', 0)] t t1 → (∀ q, q < k → t1.1 o' (b' + q) = t.1 o (b + q)) → (∀ j, j < b' ∨ b' + 9 ≤ j → t1.1 o' j = t.1 o' j) → ∃ t', (∀ f, e < f → f_X12_copies_l3 o (I b) o' (I b') f (I k) t1 = some t') ∧ Fr [(o', 0)] t t' ∧ (∀ q, q < 9 → t'.1 o' (b' + q) = t.1 o (b + q)) ∧ ∀ j, j < b' ∨ b' + 9 ≤ j → t'.1 o' j = t.1 o' j := by
    intro e
    induction e with
    | zero =>
      intro k hk t1 f1 g1 g2
      have hk : k = 9 := by omega
      subst hk
      refine ⟨t1, fun f hf => ?_, f1, g1, g2⟩
      obtain ⟨f', rfl⟩ : ∃ f', f = f' + 1 := ⟨f - 1, by omega⟩
      simp only [f_X12_copies_l3, f_X12_copies_l3b]
      exact if_pos (by decide)
    | succ e ih =>
      intro k hk t1 f1 g1 g2
      have h9 : ¬ (9 : Int32) ≤ I k := by rw [show (9 : Int32) = I 9 from litI 9, I_le (by omega) (by omega)]; omega
      have i1 : inb (I (b + k)) (sk o).2 = true := inb_t (by omega) (by omega)
      have i2 : inb (I (b' + k)) (sk o').2 = true := inb_t (by omega) (by omega)
      have n1 : (I (b + k)).toNatClampNeg = b + k := I_nat (by omega)
      have n2 : (I (b' + k)).toNatClampNeg = b' + k := I_nat (by omega)
      have oo : t1.1 o (b + k) = t.1 o (b + k) := f1.1 o (b + k) (by simp [wm, Ne.symm ne])
      obtain ⟨t', h1, h2, h3, h4⟩ := ih (k + 1) (by omega) (sI t1 o' (b' + k) (t.1 o (b + k))) (f1.trans (fr_sI (by simp [wm]))) (fun q hq => by
        rw [sI_s]
        by_cases z : q = k
        · subst z; rw [if_pos (Eq.refl _)]
        · rw [if_neg (by omega)]; exact g1 q (by omega)) (fun j hj => by rw [sI_s, if_neg (by omega)]; exact g2 j hj)
      refine ⟨t', fun f hf => ?_, h2, h3, h4⟩
      obtain ⟨f', rfl⟩ : ∃ f', f = f' + 1 := ⟨f - 1, by omega⟩
      simp only [f_X12_copies_l3, f_X12_copies_l3b, if_neg h9, I_add, i1, i2, gd_t, n1, n2, oo, ltb_t, I_succ]
      exact h1 f' (by omega)
  obtain ⟨t', h1, h2⟩ := key 9 0 (by omega) t Fr.refl (fun q hq => by omega) (fun _ _ => rfl)
  refine ⟨t', ?_, h2⟩
  have := h1 FU (FU_lt (by omega))
  rw [I_e0] at this
  exact this
/-- the row 145 is kept -/
theorem m_keep {m : Nat} (hm : m ≤ 16) (e : t.1 101 60 = I m) : ∃ m' off t', ((m < 16 ∧ m' = m ∧ off = 0) ∨ (m = 16 ∧ m' = 15 ∧ off = 1)) ∧ f_X12_keeps t = some t' ∧ Fr [(101, 61), (148, 0)] t t' ∧ t'.1 101 60 = I (m' + 1) ∧ (∀ q, q < 9 → t'.1 148 (9 * m' + q) = t.1 145 q) ∧ ∀ j, j < 9 * m' → t'.1 148 j = t.1 148 (j + 9 * off) := by
  have j49 : ∀ (m' : Nat) (u : HS), m' ≤ 15 → u.1 101 60 = I m' → ∃ t', f_X12_keeps_j49 u = some t' ∧ Fr [(101, 61), (148, 0)] u t' ∧ t'.1 101 60 = I (m' + 1) ∧ (∀ q, q < 9 → t'.1 148 (9 * m' + q) = u.1 145 q) ∧ ∀ j, j < 9 * m' → t'.1 148 j = u.1 148 j := by
    intro m' u h1 h2
    obtain ⟨t', c1, c2, c3, c4⟩ := r_copies (o := 145) (b := 0) (o' := 148) (b' := 9 * m') (by decide) (show 9 * m' + 9 ≤ 144 by omega) (by decide) (by decide) (by decide) u
    have e60 : t'.1 101 60 = I m' := by rw [c2.o (by decide)]; exact h2
    refine ⟨sI t' 101 60 (I (m' + 1)), ?_, (c2.mono (by decide)).trans (fr_sI (by decide)), by rw [sI_k], fun q hq => ?_, fun j hj => ?_⟩
    · unfold f_X12_keeps_j49
      rw [I_e0] at c1
      rw [h2, mul9, c1, bnd_t, ltb_t, e60, I_p1]
    · rw [sI_n _ _ _ (by decide), c3 q hq, Nat.zero_add]
    · rw [sI_n _ _ _ (by decide), c4 j (by omega)]
  by_cases z : m = 16
  · subst z
    have key : ∀ e k, k + e = 135 → ∀ t1, Fr [(148, 0)] t t1 → (∀ j, j < k → t1.1 148 j = t.1 148 (j + 9)) → (∀ j, k ≤ j → t1.1 148 j = t.1 148 j) → ∃ t', (∀ K f, e < f → f_X12_keeps_l11 K f (I k) t1 = K t') ∧ Fr [(148, 0)] t t' ∧ ∀ j, j < 135 → t'.1 148 j = t.1 148 (j + 9) := by
      intro e
      induction e with
      | zero =>
        intro k hk t1 f1 g1 g2
        have hk : k = 135 := by omega
        subst hk
        refine ⟨t1, fun K f hf => ?_, f1, g1⟩
        obtain ⟨f', rfl⟩ : ∃ f', f = f' + 1 := ⟨f - 1, by omega⟩
        simp only [f_X12_keeps_l11, f_X12_keeps_l11b]
        exact if_pos (by decide)
      | succ e ih =>
        intro k hk t1 f1 g1 g2
        have h9 : ¬ (135 : Int32) ≤ I k := by rw [show (135 : Int32) = I 135 from litI 135, I_le (by omega) (by omega)]; omega
        have i1 : inb (I (k + 9)) 144 = true := inb_t (by omega) (by omega)
        have i2 : inb (I k) 144 = true := inb_t (by omega) (by omega)
        have n1 : (I (k + 9)).toNatClampNeg = k + 9 := I_nat (by omega)
        have n2 : (I k).toNatClampNeg = k := I_nat (by omega)
        have oo : t1.1 148 (k + 9) = t.1 148 (k + 9) := g2 (k + 9) (by omega)
        obtain ⟨t', h1, h2, h3⟩ := ih (k + 1) (by omega) (sI t1 148 k (t.1 148 (k + 9))) (f1.trans (fr_sI (by simp [wm]))) (fun q hq => by
          rw [sI_s]
          by_cases z : q = k
          · subst z; rw [if_pos (Eq.refl _)]
          · rw [if_neg (by omega)]; exact g1 q (by omega)) (fun j hj => by rw [sI_s, if_neg (by omega)]; exact g2 j (by omega))
        refine ⟨t', fun K f hf => ?_, h2, h3⟩
        obtain ⟨f', rfl⟩ : ∃ f', f = f' + 1 := ⟨f - 1, by omega⟩
        simp only [f_X12_keeps_l11, f_X12_keeps_l11b, if_neg h9, I_p9, i1, i2, gd_t, n1, n2, oo, ltb_t, I_succ]
        exact h1 K f' (by omega)
    obtain ⟨t1, k1, k2, k3⟩ := key 135 0 (by omega) t Fr.refl (fun q hq => by omega) (fun _ _ => rfl)
    have e1 : t1.1 101 60 = I 16 := by rw [k2.o (by decide)]; exact e
    obtain ⟨t', q1, q2, q3, q4, q5⟩ := j49 15 (sI t1 101 60 (I 15)) (by omega) (by rw [sI_k])
    refine ⟨15, 1, t', Or.inr ⟨rfl, rfl, rfl⟩, ?_, (k2.mono (by decide)).trans ((fr_sI (by decide)).trans q2), q3, fun q hq => ?_, fun j hj => ?_⟩
    · have k1 := fun K => k1 K FU (FU_lt (by omega))
      rw [I_e0] at k1
      unfold f_X12_keeps
      rw [e, if_pos (by decide), k1, ltb_t, e1, show I 16 - (1 : Int32) = I 15 from by decide, q1]
    · rw [q4 q hq, sI_n _ _ _ (by decide), k2.o (by decide)]
    · rw [q5 j hj, sI_n _ _ _ (by decide), k3 j (by omega)]
  · obtain ⟨t', q1, q2, q3, q4, q5⟩ := j49 m t (by omega) e
    refine ⟨m, 0, t', Or.inl ⟨by omega, rfl, rfl⟩, ?_, q2, q3, q4, q5⟩
    unfold f_X12_keeps
    rw [e, if_neg (by rw [show (16 : Int32) = I 16 from litI 16, I_inj (by omega) (by omega)]; exact z), q1]
/-- the class's change is kept -/
theorem c_keep {m : Nat} (hm : m ≤ 16) (e : s.1 1 10 = I m) (w x y : Int32) : ∃ m' off s', ((m < 16 ∧ m' = m ∧ off = 0) ∨ (m = 16 ∧ m' = 15 ∧ off = 1)) ∧ (if (s.1 1 10) < 16 then f_X11_changeByHand_j69 w x y s else gd (cpok 3 0 (48 - 3) 48 48) (ltb (sA s 34 (va_cpy (s.1 34) (s.1 34) (3 : Int32).toNatClampNeg (0 : Int32).toNatClampNeg (48 - 3 : Int32).toNatClampNeg)) fun s16 => ltb (sI s16 1 10 15) fun s18 => f_X11_changeByHand_j69 w x y s18)) = some (1, s') ∧ Fr [(1, 11), (34, 0)] s s' ∧ s'.1 1 10 = I (m' + 1) ∧ (s'.1 34 (3 * m') = w ∧ s'.1 34 (3 * m' + 1) = x ∧ s'.1 34 (3 * m' + 2) = y) ∧ ∀ j, j < 3 * m' → s'.1 34 j = s.1 34 (j + 3 * off) := by
  have j69 : ∀ (m' : Nat) (u : HS), m' ≤ 15 → u.1 1 10 = I m' → f_X11_changeByHand_j69 w x y u = some (1, sI (sI (sI (sI u 34 (3 * m') w) 34 (3 * m' + 1) x) 34 (3 * m' + 2) y) 1 10 (I (m' + 1))) := by
    intro m' u h1 h2
    have i1 : inb (I (3 * m')) 48 = true := inb_t (by omega) (by omega)
    have i2 : inb (I (3 * m' + 1)) 48 = true := inb_t (by omega) (by omega)
    have i3 : inb (I (3 * m' + 2)) 48 = true := inb_t (by omega) (by omega)
    have n1 : (I (3 * m')).toNatClampNeg = 3 * m' := I_nat (by omega)
    have n2 : (I (3 * m' + 1)).toNatClampNeg = 3 * m' + 1 := I_nat (by omega)
    have n3 : (I (3 * m' + 2)).toNatClampNeg = 3 * m' + 2 := I_nat (by omega)
    unfold f_X11_changeByHand_j69
    simp only [h2, mul3, ltb_t, i1, i2, i3, gd_t, n1, n2, n3, I_p1, I_p2]
    rw [sI_n _ _ _ (by decide), sI_n _ _ _ (by decide), sI_n _ _ _ (by decide), h2, I_p1]
  have st : ∀ (m' off : Nat) (u : HS), u.1 34 = u.1 34 → (sI (sI (sI (sI u 34 (3 * m') w) 34 (3 * m' + 1) x) 34 (3 * m' + 2) y) 1 10 (I (m' + 1))).1 34 (3 * m') = w ∧ (sI (sI (sI (sI u 34 (3 * m') w) 34 (3 * m' + 1) x) 34 (3 * m' + 2) y) 1 10 (I (m' + 1))).1 34 (3 * m' + 1) = x ∧ (sI (sI (sI (sI u 34 (3 * m') w) 34 (3 * m' + 1) x) 34 (3 * m' + 2) y) 1 10 (I (m' + 1))).1 34 (3 * m' + 2) = y ∧ ∀ j, j < 3 * m' → (sI (sI (sI (sI u 34 (3 * m') w) 34 (3 * m' + 1) x) 34 (3 * m' + 2) y) 1 10 (I (m' + 1))).1 34 j = u.1 34 j := by
    intro m' off u _
    refine ⟨?_, ?_, ?_, fun j hj => ?_⟩
    · rw [sI_n _ _ _ (by decide), sI_s, if_neg (by omega), sI_s, if_neg (by omega), sI_k]
    · rw [sI_n _ _ _ (by decide), sI_s, if_neg (by omega), sI_k]
    · rw [sI_n _ _ _ (by decide), sI_k]
    · rw [sI_n _ _ _ (by decide), sI_s, if_neg (by omega), sI_s, if_neg (by omega), sI_s, if_neg (by omega)]
  have fr : ∀ (m' : Nat) (u : HS), Fr [(1, 11), (34, 0)] u (sI (sI (sI (sI u 34 (3 * m') w) 34 (3 * m' + 1) x) 34 (3 * m' + 2) y) 1 10 (I (m' + 1))) := fun m' u => (fr_sI (by simp [wm])).trans ((fr_sI (by simp [wm])).trans ((fr_sI (by simp [wm])).trans (fr_sI (by decide))))
  by_cases z : m = 16
  · subst z
    have cp : cpok 3 0 (48 - 3) 48 48 = true := by decide
    have i3 : (3 : Int32).toNatClampNeg = 3 := I_nat (n := 3) (by omega)
    have i0 : (0 : Int32).toNatClampNeg = 0 := I_nat (n := 0) (by omega)
    have i45 : (48 - 3 : Int32).toNatClampNeg = 45 := by decide
    have n16 : ¬ s.1 1 10 < 16 := by rw [e]; decide
    obtain ⟨t1, t2, t3, t4⟩ := st 15 1 (sI (sA s 34 (va_cpy (s.1 34) (s.1 34) (3 : Int32).toNatClampNeg (0 : Int32).toNatClampNeg (48 - 3 : Int32).toNatClampNeg)) 1 10 15) rfl
    refine ⟨15, 1, _, Or.inr ⟨rfl, rfl, rfl⟩, by rw [if_neg n16, cp, gd_t, ltb_t, ltb_t]; exact j69 15 _ (by omega) (by rw [sI_k]; decide), (fr_sA (by decide)).trans ((fr_sI (by decide)).trans (fr 15 _)), by rw [sI_k], ⟨t1, t2, t3⟩, fun j hj => ?_⟩
    rw [t4 j hj, sI_n _ _ _ (by decide)]
    show va_cpy (s.1 34) (s.1 34) (3 : Int32).toNatClampNeg (0 : Int32).toNatClampNeg (48 - 3 : Int32).toNatClampNeg j = _
    rw [i3, i0, i45]
    unfold va_cpy
    simp
    rw [if_pos (by omega), Nat.add_comm]
  · have n16 : s.1 1 10 < 16 := by rw [e, show (16 : Int32) = I 16 from litI 16, I_lt (by omega) (by omega)]; omega
    obtain ⟨t1, t2, t3, t4⟩ := st m 0 s rfl
    exact ⟨m, 0, _, Or.inl ⟨by omega, rfl, rfl⟩, by rw [if_pos n16]; exact j69 m s (by omega) e, fr m s, by rw [sI_k], ⟨t1, t2, t3⟩, t4⟩
theorem Rel.hand {s' t' : HS} (R : Rel p d c h n s t) (f : Fr [(1, 11), (34, 0), (64, 1), (64, 2), (64, 3), (64, 4), (65, 0)] s s') (g : Fr [(101, 1), (101, 61), (145, 0), (148, 0)] t t') (A : HR 64 h n s' t') (U : UN h n s' t') : Rel p d c h n s' t' := by
  obtain ⟨⟨r1, r2, r3, r4⟩, b1, b2, b3, b4, b5, b6, b7, b8, b9⟩ := R
  have av : av1 p [(1, 11), (34, 0), (64, 1), (64, 2), (64, 3), (64, 4), (65, 0)] = true := by rcases okX4_c b1.1 with rfl | rfl <;> decide
  refine ⟨⟨by rw [f.2.2.1 (by decide)]; exact r1, by rw [f.2.2.2.1 (by decide)]; exact r2, r3, r4⟩, b1.fr f g av (by decide), A, b3.fr b1.1 f g av (by decide), b4.fr b1.1 b1.n6 f g av (by decide), by rw [g.1 _ _ (by decide), g.1 _ _ (by decide), g.1 _ _ (by decide)]; exact b5, ?_, ?_, ?_, U⟩
  · unfold TP
    rw [f.1 _ _ (by decide), g.1 _ _ (by decide), f.o (by decide), g.o (by decide)]; exact b6
  · unfold DT LN SO SE
    rw [f.1 64 6 (by decide), f.1 64 8 (by decide), f.1 64 10 (by decide), f.o (o := 64 + 2) (by decide), f.o (o := 64 + 3) (by decide), f.o (o := 64 + 4) (by decide), g.o (by decide), g.o (by decide), g.o (by decide), g.o (by decide), g.o (by decide), g.o (by decide), g.o (by decide), g.o (by decide), g.o (by decide), g.o (by decide)]
    exact b7
  · have e9 : ∀ k, k < 20 → wo [(1, 11), (34, 0), (64, 1), (64, 2), (64, 3), (64, 4), (65, 0)] (81 + k) = false := by decide
    intro m hm
    obtain ⟨q1, q2, q3⟩ := b8 m hm
    have z : ∀ j, j < 5 → wo [(1, 11), (34, 0), (64, 1), (64, 2), (64, 3), (64, 4), (65, 0)] (mS m + j) = false := fun j hj => by
      have := e9 (5 * m + j) (by omega)
      rw [show mS m + j = 81 + (5 * m + j) from by unfold mS; omega]; exact this
    have z0 := z 0 (by omega)
    rw [Nat.add_zero] at z0
    have m22 : wo [(101, 1), (101, 61), (145, 0), (148, 0)] 149 = false := by decide
    have m20 : wo [(101, 1), (101, 61), (145, 0), (148, 0)] 147 = false := by decide
    refine ⟨by rw [f.o z0, g.o m22]; exact q1, by rw [g.o m22]; exact q2, fun w => ?_⟩
    rw [g.o m22] at w
    obtain ⟨v1, v2⟩ := q3 w
    refine ⟨?_, v2.fr f g ⟨z0, z 2 (by omega), z 3 (by omega), z 4 (by omega)⟩ (by decide)⟩
    unfold HRm
    rw [f.o z0, f.o (z 1 (by omega)), g.o m20, g.o (o := 103) (by decide)]; exact v1
/-- a change by hand that is one -/
theorem r_hand (R : Rel p d c h n s t) {w x y0 v : Int32} {o k q : Nat} (ho : (o = 64 ∧ k < 4) ∨ o = 65) (A : HR 64 h n (sI s o k v) (sI t 145 q v)) (q9 : q < 9)
    (N : UNi h n (t.1 103 3).toInt w x y0 (fun j => t.1 145 j) (fun j => if j = q then v else t.1 145 j))
    (c1 : f_X7_valueOf 64 p w x s = some y0) {y : Int32} (c2 : f_X7_change 64 p w x y s = some (1, sI s o k v)) (m1 : t.1 145 q ≠ v) :
    ∃ s' t', f_X11_changeByHand w x y s = some (1, s') ∧ f_X12_changes (I q) v 1 t = some (1, t') ∧ Rel p d c h n s' t' := by
  obtain ⟨m, u1, u2, u3, u4⟩ := R.2.2.2.2.2.2.2.2.2
  have hh := R.2.1.n6
  have f0 : Fr [(1, 11), (34, 0), (64, 1), (64, 2), (64, 3), (64, 4), (65, 0)] s (sI s o k v) := by
    rcases ho with ⟨rfl, hk⟩ | rfl
    · have : k = 0 ∨ k = 1 ∨ k = 2 ∨ k = 3 := by omega
      rcases this with rfl | rfl | rfl | rfl <;> exact fr_sI (by decide)
    · exact fr_sI (by simp [wm])
  have e1 : (sI s o k v).1 1 = s.1 1 := sI_n _ _ _ (by rcases ho with ⟨rfl, -⟩ | rfl <;> decide)
  have e34 : (sI s o k v).1 34 = s.1 34 := sI_n _ _ _ (by rcases ho with ⟨rfl, -⟩ | rfl <;> decide)
  obtain ⟨m', off, s', d0, d1, d2, d3, d4, d5⟩ := c_keep (s := sI s o k v) u1 (by rw [e1]; exact u2) w x y0
  obtain ⟨m'', off', t1, k0, k1, k2, k3, k4, k5⟩ := m_keep u1 u3
  have : m'' = m' ∧ off' = off := by omega
  obtain ⟨rfl, rfl⟩ := this
  have i9 : inb (I q) 9 = true := inb_t (by omega) (by omega)
  have qq : (I q).toNatClampNeg = q := I_nat (by omega)
  have o145 : t1.1 145 = t.1 145 := k2.o (by decide)
  refine ⟨s', sI t1 145 q v, ?_, ?_, R.hand (f0.trans (d2.mono (by decide))) ((k2.mono (by decide)).trans (fr_sI (by simp [wm]))) ?_ ?_⟩
  · unfold f_X11_changeByHand
    rw [R.1.1, R.2.1.1, gd_t, c1, bnd_t, gd_t, c2, bnd2_t, if_neg one_ne, d1]
  · unfold f_X12_changes
    rw [i9, gd_t, qq, if_neg m1, if_neg one_ne, k1, bnd_t, gd_t, ltb_t]
  · refine (A.eq (a := 64) ?_ ?_ ?_ ?_)
    · exact d2.o (o := 64) (by decide)
    · exact d2.o (o := 64 + 1) (by decide)
    · refine funext fun j => ?_
      rw [sI_s, sI_s, o145]
    · rw [sI_n _ _ _ (by decide), sI_n _ _ _ (by decide), k2.o (by decide)]
  · refine ⟨m'' + 1, by omega, d3, by rw [sI_n _ _ _ (by decide)]; exact k3, fun j hj => ?_⟩
    have o148 : (sI t1 145 q v).1 148 = t1.1 148 := sI_n _ _ _ (by decide)
    have o103 : (sI t1 145 q v).1 103 = t.1 103 := by rw [sI_n _ _ _ (by decide), k2.o (by decide)]
    rw [o103]
    by_cases z : j = m''
    · subst z
      refine N.cg d4.1 d4.2.1 d4.2.2 hh.2.1 (fun q' h9 => ?_) (fun q' h9 => ?_)
      · show (sI t1 145 q v).1 148 (9 * j + q') = _
        rw [o148, k4 q' h9]
      · show (if j + 1 < j + 1 then _ else (sI t1 145 q v).1 145 q') = _
        rw [if_neg (by omega), sI_s, o145]
    · have lt : j < m'' := by omega
      have old := u4 (j + off') (by omega)
      refine old.cg ?_ ?_ ?_ hh.2.1 (fun q' h9 => ?_) (fun q' h9 => ?_)
      · rw [d5 (3 * j) (by omega), e34, show 3 * j + 3 * off' = 3 * (j + off') from by omega]
      · rw [d5 (3 * j + 1) (by omega), e34, show 3 * j + 1 + 3 * off' = 3 * (j + off') + 1 from by omega]
      · rw [d5 (3 * j + 2) (by omega), e34, show 3 * j + 2 + 3 * off' = 3 * (j + off') + 2 from by omega]
      · show (sI t1 145 q v).1 148 (9 * j + q') = t.1 148 (9 * (j + off') + q')
        rw [o148, k5 (9 * j + q') (by omega), show 9 * j + q' + 9 * off' = 9 * (j + off') + q' from by omega]
      · show (if j + 1 < m'' + 1 then (sI t1 145 q v).1 148 (9 * (j + 1) + q') else (sI t1 145 q v).1 145 q') = (if j + off' + 1 < m then t.1 148 (9 * (j + off' + 1) + q') else t.1 145 q')
        rw [if_pos (by omega), o148]
        by_cases z2 : j + 1 = m''
        · rw [if_neg (by omega), z2, k4 q' h9]
        · rw [if_pos (by omega), k5 (9 * (j + 1) + q') (by omega), show 9 * (j + 1) + q' + 9 * off' = 9 * (j + off' + 1) + q' from by omega]
end HAND
