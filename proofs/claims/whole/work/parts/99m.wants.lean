/-! What a buyer wants, told, by both -/
def FwS (o3 o5 : Nat) (s s' : HS) : Prop := (∀ o j, o ≠ 36 → o ≠ 0 → (o ≠ o3 ∨ (j ≠ 6 ∧ j ≠ 7)) → (o ≠ o5 ∨ 3 ≤ j) → s'.1 o j = s.1 o j) ∧ ∀ o j, o ≠ 36 → o ≠ 0 → s'.2.1 o j = s.2.1 o j
def FwT (x : Nat) (t t' : HS) : Prop := (∀ o j, ¬ Zm o j → (o ≠ 118 ∨ j ≠ x) → (o ≠ 117 ∨ j < 3 * x ∨ 3 * x + 3 ≤ j) → t'.1 o j = t.1 o j) ∧ ∀ o j, ¬ Zm o j → t'.2.1 o j = t.2.1 o j
def INVw (o3 o5 x h m : Nat) (s t : HS) : Prop := s.1 o3 6 = I m ∧ t.1 118 x = I m ∧ (∀ k, k < m → EqB (s.1 o5 k) (t.1 117 (3 * x + k)) 0 (h - 1)) ∧ (∀ k, k < m → ∀ k', k' < m → t.1 117 (3 * x + k) = t.1 117 (3 * x + k') → k = k') ∧ s.1 o3 7 = wbits (fun k => t.1 117 (3 * x + k)) m
theorem FwS.fr {o3 o5 : Nat} {s s' s'' : HS} (F : FwS o3 o5 s s') (f : Fr LF1 s' s'') : FwS o3 o5 s s'' := ⟨fun o j h1 h2 h3 h4 => (LF1_o f h1 h2 j).trans (F.1 o j h1 h2 h3 h4), fun o j h1 h2 => (f.2.1 o j (wm_LF1 o j h1 o h2 rfl)).trans (F.2 o j h1 h2)⟩
theorem FwT.fr {x : Nat} {t t' t'' : HS} (F : FwT x t t') (f : Fr LF2 t' t'') : FwT x t t'' := ⟨fun o j h1 h2 h3 => (f.1 o j (wm_LF2 o j h1)).trans (F.1 o j h1 h2 h3), fun o j h1 => (f.2.1 o j (wm_LF2 o j h1)).trans (F.2 o j h1)⟩
theorem FwT.i44 {x : Nat} {t t' : HS} {v : Int32} (F : FwT x t t') : FwT x t (sI t' 101 44 v) := F.fr (fr_sI (by decide))
section WANTS
variable {p L h n : Nat}
theorem INVw.cg {o3 o5 x m : Nat} {s t s' t' : HS} (V : INVw o3 o5 x h m s t) (hm : m ≤ 3) (e1 : ∀ j, s'.1 o3 j = s.1 o3 j) (e2 : ∀ j, s'.1 o5 j = s.1 o5 j) (g1 : t'.1 118 x = t.1 118 x) (g2 : ∀ j, t'.1 117 j = t.1 117 j) : INVw o3 o5 x h m s' t' := by
  unfold INVw
  simp only [e1, e2, g1, g2]
  exact V
/-- the class's loop on a dead tape -/
theorem w_dead {o3 : Nat} {s : HS} (D : Dd s) {m : Nat} (hm : m ≤ 3) (f : Nat) (K : Nat) : f_X5_readWants_l12 p o3 (f + 1) (I (m + 1)) s = some s := by
  simp only [f_X5_readWants_l12, f_X5_readWants_l12b]
  by_cases z : (3 : Int32) < I (m + 1)
  · rw [if_pos z]
  · rw [if_neg z, if_neg (by rw [I0, I_inj (by omega) (by omega)]; omega), if_neg (by rw [D.2.1]; decide)]
theorem w_step (hp : okX4 p = true) (hn : n < 6) (hh : h ≤ 5) {s0 t0 : HS} (c1 : s0.1 p 12 = I h) (c2 : t0.1 103 11 = I h) (N2 : ∀ i, i < h → NMk (s0.2.1 (tS p i) 0) (t0.2.1 105 (5 + i))) {m B P : Nat} (hm : m ≤ 3) {s t : HS} (T : TK L B P s t) (F : FwS (p + (14 + 2 * n)) (p + (15 + 2 * n)) s0 s) (G : FwT (6 + n) t0 t) (V : INVw (p + (14 + 2 * n)) (p + (15 + 2 * n)) (6 + n) h m s t) :
    (m < 3 ∧ ∃ B' P' s2 t2, TK L B' P' s2 t2 ∧ B ≤ B' ∧ FwS (p + (14 + 2 * n)) (p + (15 + 2 * n)) s0 s2 ∧ FwT (6 + n) t0 t2 ∧ INVw (p + (14 + 2 * n)) (p + (15 + 2 * n)) (6 + n) h (m + 1) s2 t2 ∧ (∀ f, f_X5_readWants_l12 p (p + (14 + 2 * n)) (f + 1) (I m) s = f_X5_readWants_l12 p (p + (14 + 2 * n)) f (I (m + 1)) s2) ∧ (∀ f, f_X12_readsWants_l9 (I (6 + n)) (f + 1) (wbits (fun k => t.1 117 (3 * (6 + n) + k)) m) t = f_X12_readsWants_l9 (I (6 + n)) f (wbits (fun k => t2.1 117 (3 * (6 + n) + k)) (m + 1)) t2)) ∨
    (∃ s', (∀ f, f_X5_readWants_l12 p (p + (14 + 2 * n)) (f + 2) (I m) s = some s') ∧
      (((∃ B' P' t' m', (∀ f, f_X12_readsWants_l9 (I (6 + n)) (f + 1) (wbits (fun k => t.1 117 (3 * (6 + n) + k)) m) t = some (1, t')) ∧ TK L B' P' s' t' ∧ B ≤ B' ∧ (1 ≤ m' ∧ m' ≤ 3) ∧ INVw (p + (14 + 2 * n)) (p + (15 + 2 * n)) (6 + n) h m' s' t' ∧ FwS (p + (14 + 2 * n)) (p + (15 + 2 * n)) s0 s' ∧ FwT (6 + n) t0 t' ∧ f_X8_isSign 59 s' = 1) ∨
       (∃ B' P' t' t'', (∀ f, f_X12_readsWants_l9 (I (6 + n)) (f + 1) (wbits (fun k => t.1 117 (3 * (6 + n) + k)) m) t = some (0, t'')) ∧ f_X12_fails 1 t' = some (0, t'') ∧ TK L B' P' s' t' ∧ FwS (p + (14 + 2 * n)) (p + (15 + 2 * n)) s0 s' ∧ FwT (6 + n) t0 t' ∧ f_X8_isSign 59 s' = 0) ∨
       (∃ t', (∀ f, f_X12_readsWants_l9 (I (6 + n)) (f + 1) (wbits (fun k => t.1 117 (3 * (6 + n) + k)) m) t = some (0, t')) ∧ BD s' t' ∧ FwT (6 + n) t0 t')))) := by
  have q := p36 hp
  have h5 : Rf (p + (14 + 2 * n)) 5 = p + (15 + 2 * n) := by rw [← bS_e hp hn]; exact wS_e hp hn
  have i12 : inb (I (6 + n)) 12 = true := inb_t (by omega) (by omega)
  have k12 : (I (6 + n)).toNatClampNeg = 6 + n := I_nat (by omega)
  obtain ⟨qa1, qa2, qa3, -⟩ := q (14 + 2 * n) (by omega)
  obtain ⟨qb1, qb2, qb3, -⟩ := q (15 + 2 * n) (by omega)
  obtain ⟨qc1, -, qc3, -⟩ := q 0 (by omega)
  have hle := T.le
  have m3 : ¬ (3 : Int32) < I m := by rw [show (3 : Int32) = I 3 from litI 3, I_lt (by omega) (by omega)]; omega
  have m0 : I m = 0 ↔ m = 0 := by rw [I0, I_inj (by omega) (by omega)]
  obtain ⟨v1, v2, v3, v4, v5⟩ := id V
  have s12 : s.1 p 12 = I h := by rw [F.1 p 12 qc1 qc3 (Or.inl (by omega)) (Or.inl (by omega))]; exact c1
  have t11 : t.1 103 11 = I h := by rw [G.1 103 11 (by unfold Zm; omega) (Or.inl (by decide)) (Or.inl (by decide))]; exact c2
  have nm : ∀ i, i < h → NMk (s.2.1 (tS p i) 0) (t.2.1 105 (5 * 1 + i)) := fun i hi => by
    have := N2 i hi
    rw [tS_e hp (by omega)] at this ⊢
    rw [F.2 _ _ (q (9 + i) (by omega)).1 (q (9 + i) (by omega)).2.2.1, G.2 105 _ (by unfold Zm; omega)]; exact this
  -- the class and the reference, where a thing is read
  have goC : m = 0 ∨ t.1 101 6 = 1 → ∀ f, f_X5_readWants_l12 p (p + (14 + 2 * n)) (f + 1) (I m) s = f_X5_readWants_j32 p (p + (14 + 2 * n)) (I m) (f_X5_readWants_l12 p (p + (14 + 2 * n)) f) s := fun z f => by
    simp only [f_X5_readWants_l12, f_X5_readWants_l12b, if_neg m3]
    by_cases y : m = 0
    · rw [if_pos (m0.mpr y)]
    · rw [if_neg (fun w => y (m0.mp w)), if_pos (T.kind.trans (z.resolve_left y))]
  have goM : m = 0 ∨ f_X8_isSign 59 s = 0 → ∀ f w, f_X12_readsWants_l9 (I (6 + n)) (f + 1) w t = f_X12_readsWants_j27 (I (6 + n)) w (f_X12_readsWants_l9 (I (6 + n)) f) t := fun z f w => by
    simp only [f_X12_readsWants_l9, f_X12_readsWants_l9b, i12, gd_t, k12, v2]
    by_cases y : m = 0
    · rw [if_pos (m0.mpr y)]
    · rw [if_neg (fun w => y (m0.mp w)), (T.sign 59).1, bnd_t, if_pos (z.resolve_left y)]
  have bad : ∀ (v : Int32) (t1 : HS), 1 ≤ v.toInt ∧ v.toInt ≤ 5 → TK L B P s t1 → FwT (6 + n) t0 t1 → ∃ s' t', f_X8_fail v s = some s' ∧ f_X12_fails v t1 = some (0, t') ∧ BD s' t' ∧ FwT (6 + n) t0 t' := fun v t1 hv T1 G1 => by
    obtain ⟨s', t', q1, q2, q3, q4, q5⟩ := T1.fail hv
    exact ⟨s', t', q1, q2, q3, G1.fr q5⟩
  obtain ⟨y5, hy5⟩ := cls_thing1 hp hh s12 (s.2.1 36 5)
  by_cases stop : m ≠ 0 ∧ ¬ t.1 101 6 = 1
  · -- no word more
    refine Or.inr ⟨s, fun f => ?_, ?_⟩
    · simp only [f_X5_readWants_l12, f_X5_readWants_l12b, if_neg m3]
      rw [if_neg (fun w => stop.1 (m0.mp w)), if_neg (by rw [T.kind]; exact stop.2)]
    rcases (T.sign 59).2.2 with y | y
    · have kp : f_X12_isKept t = 1 := by
        rcases T.name with ⟨-, -, z, -⟩ | ⟨-, z⟩
        · exact absurd z stop.2
        · exact z
      obtain ⟨-, t', -, q2, -, -⟩ := bad 1 t (by decide) T G
      refine Or.inr (Or.inl ⟨B, P, t, t', fun f => ?_, q2, T, F, G, y⟩)
      rw [goM (Or.inr y)]
      unfold f_X12_readsWants_j27 f_X12_needsThing
      rw [if_neg (by rw [kp]; decide), q2, bnd2_t, show isb 0 = true from by decide, gd_t, bnd2_t, if_pos (Eq.refl _)]
    · refine Or.inl ⟨B, P, t, m, fun f => ?_, T, Nat.le_refl _, ⟨by omega, hm⟩, V, F, G, y⟩
      simp only [f_X12_readsWants_l9, f_X12_readsWants_l9b, i12, gd_t, k12, v2]
      rw [if_neg (fun w => stop.1 (m0.mp w)), (T.sign 59).1, bnd_t, if_neg (by rw [y]; decide)]
  have stop : m = 0 ∨ t.1 101 6 = 1 := by
    by_cases y : m = 0
    · exact Or.inl y
    · exact Or.inr (Classical.byContradiction (fun z => stop ⟨y, z⟩))
  have stopM : m = 0 ∨ f_X8_isSign 59 s = 0 := stop.imp id (fun z => (T.sign 59).2.2.resolve_right (fun w => by have := ((T.sign 59).2.1.mp w).1; rw [z] at this; exact absurd this (by decide)))
  have GC := goC stop
  have GM := goM stopM
  -- a fault of both here
  have fin : ∀ (v : Int32) (t1 : HS), 1 ≤ v.toInt ∧ v.toInt ≤ 5 → TK L B P s t1 → FwT (6 + n) t0 t1 → (∀ f, f_X5_readWants_j32 p (p + (14 + 2 * n)) (I m) (f_X5_readWants_l12 p (p + (14 + 2 * n)) (f + 1)) s = bnd (f_X8_fail v s) fun s25 => f_X5_readWants_j165 p (p + (14 + 2 * n)) (I m) (f_X5_readWants_l12 p (p + (14 + 2 * n)) (f + 1)) s25) → (∀ f w t', w = wbits (fun k => t.1 117 (3 * (6 + n) + k)) m → f_X12_fails v t1 = some (0, t') → f_X12_readsWants_j27 (I (6 + n)) w (f_X12_readsWants_l9 (I (6 + n)) f) t = some (0, t')) → ∃ s', (∀ f, f_X5_readWants_l12 p (p + (14 + 2 * n)) (f + 2) (I m) s = some s') ∧
      (((∃ B' P' t' m', (∀ f, f_X12_readsWants_l9 (I (6 + n)) (f + 1) (wbits (fun k => t.1 117 (3 * (6 + n) + k)) m) t = some (1, t')) ∧ TK L B' P' s' t' ∧ B ≤ B' ∧ (1 ≤ m' ∧ m' ≤ 3) ∧ INVw (p + (14 + 2 * n)) (p + (15 + 2 * n)) (6 + n) h m' s' t' ∧ FwS (p + (14 + 2 * n)) (p + (15 + 2 * n)) s0 s' ∧ FwT (6 + n) t0 t' ∧ f_X8_isSign 59 s' = 1) ∨
       (∃ B' P' t' t'', (∀ f, f_X12_readsWants_l9 (I (6 + n)) (f + 1) (wbits (fun k => t.1 117 (3 * (6 + n) + k)) m) t = some (0, t'')) ∧ f_X12_fails 1 t' = some (0, t'') ∧ TK L B' P' s' t' ∧ FwS (p + (14 + 2 * n)) (p + (15 + 2 * n)) s0 s' ∧ FwT (6 + n) t0 t' ∧ f_X8_isSign 59 s' = 0) ∨
       (∃ t', (∀ f, f_X12_readsWants_l9 (I (6 + n)) (f + 1) (wbits (fun k => t.1 117 (3 * (6 + n) + k)) m) t = some (0, t')) ∧ BD s' t' ∧ FwT (6 + n) t0 t'))) := fun v t1 hv T1 G1 hc hmm => by
    obtain ⟨s', t', q1, q2, q3, q4⟩ := bad v t1 hv T1 G1
    refine ⟨s', fun f => ?_, Or.inr (Or.inr ⟨t', fun f => ?_, q3, q4⟩)⟩
    · rw [GC, hc, q1, bnd_t]
      unfold f_X5_readWants_j165
      rw [ltb_t, I_p1]
      exact w_dead q3.1 hm f 0
    · rw [GM]
      exact hmm f _ t' rfl q2
  rcases T.name with ⟨e1, e2, e3, e4⟩ | ⟨e1, e2⟩
  · obtain ⟨v, a1, a2, a3⟩ := r_thing hp (r := 1) (Nat.le_refl 1) hh s12 t11 nm e4 rfl
    have a2 : f_X12_thingNamed 1 t = some v := a2
    have hv5 : v = y5 := by rw [a1] at hy5; exact Option.some.inj hy5
    have T1 : TK L B P s (sI t 101 44 v) := T.mI ⟨Or.inr (by omega), by decide⟩
    have nT : f_X12_needsThing 1 t = if 0 ≤ v then some (1, sI t 101 44 v) else bnd2 (f_X12_fails 2 (sI t 101 44 v)) fun y5 s6 => (if y5 = 0 then some (0, s6) else some (1, s6)) := by
      unfold f_X12_needsThing
      rw [if_pos e2, a2, bnd_t, ltb_t, sI_k]
    rcases a3 with rfl | ⟨i, hi, rfl⟩
    · -- it isn't known
      refine Or.inr (fin 2 (sI t 101 44 (-1)) (by decide) T1 G.i44 (fun f => ?_) (fun f w t' hw hf => ?_))
      · unfold f_X5_readWants_j32
        rw [a1, bnd_t, e1, bnd_t, if_neg (by decide), if_neg (by decide)]
      · unfold f_X12_readsWants_j27
        rw [nT, if_neg (by decide), hf, bnd2_t, if_pos (Eq.refl _), bnd2_t, if_pos (Eq.refl _)]
    have p0 : (0 : Int32) ≤ I i := by rw [I0, I_le (by omega) (by omega)]; omega
    obtain ⟨b, b1, b2, b3⟩ := wbits_e (w := fun k => t.1 117 (3 * (6 + n) + k)) (h := 5) (by omega) (m := m) (fun k hk => by
      obtain ⟨-, z1, z2⟩ := v3 k hk
      exact ⟨(t.1 117 (3 * (6 + n) + k)).toInt.toNat, by omega, I_of z1⟩)
    have b64 : b < 64 := by have : (2 : Nat) ^ 5 = 32 := by decide
                            omega
    have bit : (wbits (fun k => t.1 117 (3 * (6 + n) + k)) m >>> (I i &&& 31)) &&& 1 = if b.testBit i then 1 else 0 := by rw [b2]; exact bitb b b64 i (by omega)
    by_cases tw : b.testBit i = true
    · -- wanted twice
      rw [if_pos tw] at bit
      refine Or.inr (fin 3 (sI t 101 44 (I i)) (by decide) T1 G.i44 (fun f => ?_) (fun f w t' hw hf => ?_))
      · unfold f_X5_readWants_j32
        rw [a1, bnd_t, e1, bnd_t, if_neg (by decide), if_pos p0, v5, bit, if_neg (by decide)]
      · unfold f_X12_readsWants_j27
        rw [nT, if_pos p0, bnd2_t, if_neg (by decide), sI_k, hw, bit, if_pos (Eq.refl _), hf, bnd2_t, show isb 0 = true from by decide, gd_t]
    rw [if_neg tw] at bit
    have e118 : (sI t 101 44 (I i)).1 118 = t.1 118 := sI_n _ _ _ (by decide)
    by_cases z3 : m = 3
    · -- more than three
      refine Or.inr (fin 5 (sI t 101 44 (I i)) (by decide) T1 G.i44 (fun f => ?_) (fun f w t' hw hf => ?_))
      · unfold f_X5_readWants_j32
        rw [a1, bnd_t, e1, bnd_t, if_neg (by decide), if_pos p0, v5, bit, if_pos (Eq.refl _), v1, if_neg (by rw [show (3 : Int32) = I 3 from litI 3, I_lt (by omega) (by omega)]; omega)]
      · unfold f_X12_readsWants_j27
        rw [nT, if_pos p0, bnd2_t, if_neg (by decide), sI_k, hw, bit, if_neg (by decide), i12, gd_t, k12, e118, v2, if_pos (by rw [show (3 : Int32) = I 3 from litI 3, I_inj (by omega) (by omega)]; exact z3), hf, bnd2_t, show isb 0 = true from by decide, gd_t]
    -- one more
    have hx : 3 * (6 + n) + m < 36 := by omega
    have eix : (3 : Int32) * I (6 + n) + I m = I (3 * (6 + n) + m) := by rw [show (3 : Int32) = I 3 from litI 3, I_mul, I_add]
    have T2 : TK L B P (sI (sI (sI s (p + (15 + 2 * n)) m (I i)) (p + (14 + 2 * n)) 6 (I (m + 1))) (p + (14 + 2 * n)) 7 (wbits (fun k => t.1 117 (3 * (6 + n) + k)) m ||| ((1 : Int32) <<< (I i &&& 31)))) (sI (sI (sI t 101 44 (I i)) 117 (3 * (6 + n) + m) (I i)) 118 (6 + n) (I (m + 1))) := ((((T1.cI ⟨qb1, qb2⟩).cI ⟨qa1, qa2⟩).cI ⟨qa1, qa2⟩).mI ⟨Or.inl (by decide), by decide⟩).mI ⟨Or.inl (by decide), by decide⟩
    obtain ⟨B', P', s2, t2, c3, c4, c5, c6, c7, c8⟩ := T2.next
    have c7 := c7.mono (show wsub LT1 LF1 = true by decide)
    have c8 := c8.mono (show wsub LT2 LF2 = true by decide)
    have ne1 : p + (14 + 2 * n) ≠ p + (15 + 2 * n) := by omega
    have f3 : ∀ j, s2.1 (p + (14 + 2 * n)) j = if j = 7 then wbits (fun k => t.1 117 (3 * (6 + n) + k)) m ||| ((1 : Int32) <<< (I i &&& 31)) else if j = 6 then I (m + 1) else s.1 (p + (14 + 2 * n)) j := fun j => by
      rw [LF1_o c7 qa1 qa3, sI_s, sI_s, sI_n _ _ _ ne1]
    have f5 : ∀ j, s2.1 (p + (15 + 2 * n)) j = if j = m then I i else s.1 (p + (15 + 2 * n)) j := fun j => by
      rw [LF1_o c7 qb1 qb3, sI_n _ _ _ (Ne.symm ne1), sI_n _ _ _ (Ne.symm ne1), sI_s]
    have z117 : ∀ j, ¬ Zm 117 j := fun j w => absurd w.1 (by decide)
    have z118 : ∀ j, ¬ Zm 118 j := fun j w => absurd w.1 (by decide)
    have g117 : ∀ j, t2.1 117 j = if j = 3 * (6 + n) + m then I i else t.1 117 j := fun j => by
      rw [c8.1 117 j (wm_LF2 117 j (z117 j)), sI_n _ _ _ (show 117 ≠ 118 from by decide), sI_s, sI_n _ _ _ (show 117 ≠ 101 from by decide)]
    have g118 : t2.1 118 (6 + n) = I (m + 1) := by
      rw [c8.1 118 _ (wm_LF2 118 _ (z118 _)), sI_k]
    have wb : wbits (fun k => t2.1 117 (3 * (6 + n) + k)) (m + 1) = wbits (fun k => t.1 117 (3 * (6 + n) + k)) m ||| ((1 : Int32) <<< (I i &&& 31)) := by
      show wbits (fun k => t2.1 117 (3 * (6 + n) + k)) m ||| ((1 : Int32) <<< (t2.1 117 (3 * (6 + n) + m) &&& 31)) = _
      rw [g117 (3 * (6 + n) + m), if_pos (Eq.refl _), wbits_cg (fun k hk => by rw [g117, if_neg (by omega)])]
    refine Or.inl ⟨by omega, B', P', s2, t2, c5, by omega, ?_, ?_, ⟨?_, g118, fun k hk => ?_, fun k hk k' hk' w => ?_, ?_⟩, fun f => ?_, fun f => ?_⟩
    · refine ⟨fun o j h1 h2 h3 h4 => ?_, fun o j h1 h2 => ?_⟩
      · by_cases y : o = p + (14 + 2 * n)
        · subst y
          rw [f3, if_neg (by omega), if_neg (by omega)]
          exact F.1 _ _ h1 h2 h3 h4
        · by_cases y2 : o = p + (15 + 2 * n)
          · subst y2
            rw [f5, if_neg (by omega)]
            exact F.1 _ _ h1 h2 h3 h4
          · rw [LF1_o c7 h1 h2, sI_n _ _ _ y, sI_n _ _ _ y, sI_n _ _ _ y2]
            exact F.1 _ _ h1 h2 h3 h4
      · rw [c7.2.1 o j (wm_LF1 o j h1 o h2 rfl)]
        exact F.2 _ _ h1 h2
    · refine ⟨fun o j h1 h2 h3 => ?_, fun o j h1 => ?_⟩
      · rw [c8.1 o j (wm_LF2 o j h1)]
        by_cases y : o = 118
        · subst y
          rw [sI_s, if_neg (by omega), sI_n _ _ _ (show 118 ≠ 117 from by decide), sI_n _ _ _ (show 118 ≠ 101 from by decide)]
          exact G.1 _ _ h1 h2 h3
        · by_cases y2 : o = 117
          · subst y2
            rw [sI_n _ _ _ y, sI_s, if_neg (by omega), sI_n _ _ _ (show 117 ≠ 101 from by decide)]
            exact G.1 _ _ h1 h2 h3
          · rw [sI_n _ _ _ y, sI_n _ _ _ y2]
            by_cases y3 : o = 101
            · subst y3
              rw [sI_s, if_neg (by unfold Zm at h1; omega)]
              exact G.1 _ _ h1 h2 h3
            · rw [sI_n _ _ _ y3]
              exact G.1 _ _ h1 h2 h3
      · rw [c8.2.1 o j (wm_LF2 o j h1)]
        exact G.2 _ _ h1
    · rw [f3, if_neg (by decide), if_pos (Eq.refl _)]
    · rw [f5, g117]
      by_cases y : k = m
      · rw [if_pos y, if_pos (by omega)]
        exact ⟨rfl, by rw [I_toInt (by omega)]; omega, by rw [I_toInt (by omega)]; omega⟩
      · rw [if_neg y, if_neg (by omega)]
        exact v3 k (by omega)
    · rw [g117, g117] at w
      have nin : ∀ k, k < m → ¬ t.1 117 (3 * (6 + n) + k) = I i := fun k hk z => tw ((b3 i (by omega)).mpr ⟨k, hk, z⟩)
      by_cases y : k = m
      · by_cases y' : k' = m
        · omega
        · rw [if_pos (by omega), if_neg (by omega)] at w
          exact absurd w.symm (nin k' (by omega))
      · by_cases y' : k' = m
        · rw [if_neg (by omega), if_pos (by omega)] at w
          exact absurd w (nin k (by omega))
        · rw [if_neg (by omega), if_neg (by omega)] at w
          exact v4 k (by omega) k' (by omega) w
    · rw [f3, if_pos (Eq.refl _), wb]
    · rw [GC]
      unfold f_X5_readWants_j32 f_X5_readWants_j165
      have km : (I m).toNatClampNeg = m := I_nat (by omega)
      rw [a1, bnd_t, e1, bnd_t, if_neg (by decide), if_pos p0, v5, bit, if_pos (Eq.refl _), v1, if_pos (by rw [show (3 : Int32) = I 3 from litI 3, I_lt (by omega) (by omega)]; omega), inb_t (show m < 3 from by omega) (by omega), gd_t, h5, km]
      simp only [ltb_t]
      rw [show (sI s (p + (15 + 2 * n)) m (I i)).1 (p + (14 + 2 * n)) 6 = I m from by rw [sI_n _ _ _ ne1]; exact v1, I_p1, show (sI (sI s (p + (15 + 2 * n)) m (I i)) (p + (14 + 2 * n)) 6 (I (m + 1))).1 (p + (14 + 2 * n)) 7 = wbits (fun k => t.1 117 (3 * (6 + n) + k)) m from by rw [sI_s, if_neg (by decide), sI_n _ _ _ ne1]; exact v5, c3, bnd_t]
    · rw [GM]
      unfold f_X12_readsWants_j27
      rw [nT, if_pos p0, bnd2_t, if_neg (by decide), sI_k, bit, if_neg (by decide), i12, gd_t, k12, e118, v2, if_neg (by rw [show (3 : Int32) = I 3 from litI 3, I_inj (by omega) (by omega)]; exact z3)]
      simp only [ltb_t, gd_t]
      rw [eix, inb_t hx (by omega), gd_t, I_nat (by omega)]
      rw [show (sI (sI t 101 44 (I i)) 117 (3 * (6 + n) + m) (I i)).1 118 (6 + n) = I m from by rw [sI_n _ _ _ (show 118 ≠ 117 from by decide), e118]; exact v2, I_p1, c4, bnd_t, wb]
  · -- no name stands here
    refine Or.inr (fin 1 t (by decide) T G (fun f => ?_) (fun f w t' hw hf => ?_))
    · unfold f_X5_readWants_j32
      rw [hy5, bnd_t, e1, bnd_t, if_pos (Eq.refl _)]
    · unfold f_X12_readsWants_j27 f_X12_needsThing
      rw [if_neg (by rw [e2]; decide), hf, bnd2_t, show isb 0 = true from by decide, gd_t, bnd2_t, if_pos (Eq.refl _)]
theorem w_all (hp : okX4 p = true) (hn : n < 6) (hh : h ≤ 5) {s0 t0 : HS} (c1 : s0.1 p 12 = I h) (c2 : t0.1 103 11 = I h) (N2 : ∀ i, i < h → NMk (s0.2.1 (tS p i) 0) (t0.2.1 105 (5 + i))) : ∀ e m, m + e = 3 → ∀ B P s t, TK L B P s t → FwS (p + (14 + 2 * n)) (p + (15 + 2 * n)) s0 s → FwT (6 + n) t0 t → INVw (p + (14 + 2 * n)) (p + (15 + 2 * n)) (6 + n) h m s t →
    ∃ s', (∀ f, f_X5_readWants_l12 p (p + (14 + 2 * n)) (f + (e + 2)) (I m) s = some s') ∧
      (((∃ B' P' t' m', (∀ f, f_X12_readsWants_l9 (I (6 + n)) (f + (e + 1)) (wbits (fun k => t.1 117 (3 * (6 + n) + k)) m) t = some (1, t')) ∧ TK L B' P' s' t' ∧ B ≤ B' ∧ (1 ≤ m' ∧ m' ≤ 3) ∧ INVw (p + (14 + 2 * n)) (p + (15 + 2 * n)) (6 + n) h m' s' t' ∧ FwS (p + (14 + 2 * n)) (p + (15 + 2 * n)) s0 s' ∧ FwT (6 + n) t0 t' ∧ f_X8_isSign 59 s' = 1) ∨
       (∃ B' P' t' t'', (∀ f, f_X12_readsWants_l9 (I (6 + n)) (f + (e + 1)) (wbits (fun k => t.1 117 (3 * (6 + n) + k)) m) t = some (0, t'')) ∧ f_X12_fails 1 t' = some (0, t'') ∧ TK L B' P' s' t' ∧ FwS (p + (14 + 2 * n)) (p + (15 + 2 * n)) s0 s' ∧ FwT (6 + n) t0 t' ∧ f_X8_isSign 59 s' = 0) ∨
       (∃ t', (∀ f, f_X12_readsWants_l9 (I (6 + n)) (f + (e + 1)) (wbits (fun k => t.1 117 (3 * (6 + n) + k)) m) t = some (0, t')) ∧ BD s' t' ∧ FwT (6 + n) t0 t'))) := by
  have fin : ∀ (m B e : Nat) (s t : HS), (∃ s', (∀ f, f_X5_readWants_l12 p (p + (14 + 2 * n)) (f + 2) (I m) s = some s') ∧
      (((∃ B' P' t' m', (∀ f, f_X12_readsWants_l9 (I (6 + n)) (f + 1) (wbits (fun k => t.1 117 (3 * (6 + n) + k)) m) t = some (1, t')) ∧ TK L B' P' s' t' ∧ B ≤ B' ∧ (1 ≤ m' ∧ m' ≤ 3) ∧ INVw (p + (14 + 2 * n)) (p + (15 + 2 * n)) (6 + n) h m' s' t' ∧ FwS (p + (14 + 2 * n)) (p + (15 + 2 * n)) s0 s' ∧ FwT (6 + n) t0 t' ∧ f_X8_isSign 59 s' = 1) ∨
       (∃ B' P' t' t'', (∀ f, f_X12_readsWants_l9 (I (6 + n)) (f + 1) (wbits (fun k => t.1 117 (3 * (6 + n) + k)) m) t = some (0, t'')) ∧ f_X12_fails 1 t' = some (0, t'') ∧ TK L B' P' s' t' ∧ FwS (p + (14 + 2 * n)) (p + (15 + 2 * n)) s0 s' ∧ FwT (6 + n) t0 t' ∧ f_X8_isSign 59 s' = 0) ∨
       (∃ t', (∀ f, f_X12_readsWants_l9 (I (6 + n)) (f + 1) (wbits (fun k => t.1 117 (3 * (6 + n) + k)) m) t = some (0, t')) ∧ BD s' t' ∧ FwT (6 + n) t0 t')))) → ∃ s', (∀ f, f_X5_readWants_l12 p (p + (14 + 2 * n)) (f + (e + 2)) (I m) s = some s') ∧
      (((∃ B' P' t' m', (∀ f, f_X12_readsWants_l9 (I (6 + n)) (f + (e + 1)) (wbits (fun k => t.1 117 (3 * (6 + n) + k)) m) t = some (1, t')) ∧ TK L B' P' s' t' ∧ B ≤ B' ∧ (1 ≤ m' ∧ m' ≤ 3) ∧ INVw (p + (14 + 2 * n)) (p + (15 + 2 * n)) (6 + n) h m' s' t' ∧ FwS (p + (14 + 2 * n)) (p + (15 + 2 * n)) s0 s' ∧ FwT (6 + n) t0 t' ∧ f_X8_isSign 59 s' = 1) ∨
       (∃ B' P' t' t'', (∀ f, f_X12_readsWants_l9 (I (6 + n)) (f + (e + 1)) (wbits (fun k => t.1 117 (3 * (6 + n) + k)) m) t = some (0, t'')) ∧ f_X12_fails 1 t' = some (0, t'') ∧ TK L B' P' s' t' ∧ FwS (p + (14 + 2 * n)) (p + (15 + 2 * n)) s0 s' ∧ FwT (6 + n) t0 t' ∧ f_X8_isSign 59 s' = 0) ∨
       (∃ t', (∀ f, f_X12_readsWants_l9 (I (6 + n)) (f + (e + 1)) (wbits (fun k => t.1 117 (3 * (6 + n) + k)) m) t = some (0, t')) ∧ BD s' t' ∧ FwT (6 + n) t0 t'))) := fun m B e s t h => by
    obtain ⟨s', a, b⟩ := h
    refine ⟨s', fun f => by rw [show f + (e + 2) = (f + e) + 2 from by omega]; exact a _, ?_⟩
    rcases b with ⟨B', P', t', m', b1, b2⟩ | ⟨B', P', t', t'', b1, b2⟩ | ⟨t', b1, b2⟩
    · exact Or.inl ⟨B', P', t', m', fun f => by rw [show f + (e + 1) = (f + e) + 1 from by omega]; exact b1 _, b2⟩
    · exact Or.inr (Or.inl ⟨B', P', t', t'', fun f => by rw [show f + (e + 1) = (f + e) + 1 from by omega]; exact b1 _, b2⟩)
    · exact Or.inr (Or.inr ⟨t', fun f => by rw [show f + (e + 1) = (f + e) + 1 from by omega]; exact b1 _, b2⟩)
  intro e
  induction e with
  | zero =>
    intro m hm B P s t T F G V
    rcases w_step hp hn hh c1 c2 N2 (by omega) T F G V with ⟨z, -⟩ | a
    · omega
    · exact fin m B 0 s t a
  | succ e ih =>
    intro m hm B P s t T F G V
    rcases w_step hp hn hh c1 c2 N2 (by omega) T F G V with ⟨-, B2, P2, s2, t2, a1, a2, a3, a4, a5, a6, a7⟩ | a
    · obtain ⟨s', r1, r2⟩ := ih (m + 1) (by omega) B2 P2 s2 t2 a1 a3 a4 a5
      refine ⟨s', fun f => by rw [show f + (e + 1 + 2) = (f + (e + 2)) + 1 from by omega, a6]; exact r1 f, ?_⟩
      rcases r2 with ⟨B', P', t', m', b1, b2, b3, b4⟩ | ⟨B', P', t', t'', b1, b2⟩ | ⟨t', b1, b2⟩
      · exact Or.inl ⟨B', P', t', m', fun f => by rw [show f + (e + 1 + 1) = (f + (e + 1)) + 1 from by omega, a7]; exact b1 f, b2, by omega, b4⟩
      · exact Or.inr (Or.inl ⟨B', P', t', t'', fun f => by rw [show f + (e + 1 + 1) = (f + (e + 1)) + 1 from by omega, a7]; exact b1 f, b2⟩)
      · exact Or.inr (Or.inr ⟨t', fun f => by rw [show f + (e + 1 + 1) = (f + (e + 1)) + 1 from by omega, a7]; exact b1 f, b2⟩)
    · exact fin m B (e + 1) s t a
theorem p_wants (hp : okX4 p = true) (hn : n < 6) (hh : h ≤ 5) {s t : HS} (c1 : s.1 p 12 = I h) (c2 : t.1 103 11 = I h) (N2 : ∀ i, i < h → NMk (s.2.1 (tS p i) 0) (t.2.1 105 (5 + i))) {B P : Nat} (T : TK L B P s t) :
    ∃ s', f_X5_readWants p (p + (14 + 2 * n)) s = some s' ∧
      (((∃ B' P' t' m', f_X12_readsWants (I (6 + n)) t = some (1, t') ∧ TK L B' P' s' t' ∧ B ≤ B' ∧ (1 ≤ m' ∧ m' ≤ 3) ∧ INVw (p + (14 + 2 * n)) (p + (15 + 2 * n)) (6 + n) h m' s' t' ∧ FwS (p + (14 + 2 * n)) (p + (15 + 2 * n)) s s' ∧ FwT (6 + n) t t' ∧ f_X8_isSign 59 s' = 1) ∨
       (∃ B' P' t' t'', f_X12_readsWants (I (6 + n)) t = some (0, t'') ∧ f_X12_fails 1 t' = some (0, t'') ∧ TK L B' P' s' t' ∧ FwS (p + (14 + 2 * n)) (p + (15 + 2 * n)) s s' ∧ FwT (6 + n) t t' ∧ f_X8_isSign 59 s' = 0) ∨
       (∃ t', f_X12_readsWants (I (6 + n)) t = some (0, t') ∧ BD s' t' ∧ FwT (6 + n) t t'))) := by
  have q := p36 hp
  obtain ⟨qa1, qa2, qa3, -⟩ := q (14 + 2 * n) (by omega)
  have T1 : TK L B P (sI (sI s (p + (14 + 2 * n)) 6 0) (p + (14 + 2 * n)) 7 0) (sI t 118 (6 + n) 0) := ((T.cI ⟨qa1, qa2⟩).cI ⟨qa1, qa2⟩).mI ⟨Or.inl (by decide), by decide⟩
  have F : FwS (p + (14 + 2 * n)) (p + (15 + 2 * n)) s (sI (sI s (p + (14 + 2 * n)) 6 0) (p + (14 + 2 * n)) 7 0) := ⟨fun o j h1 h2 h3 h4 => by
    by_cases y : o = p + (14 + 2 * n)
    · subst y
      rw [sI_s, if_neg (by omega), sI_s, if_neg (by omega)]
    · rw [sI_n _ _ _ y, sI_n _ _ _ y], fun _ _ _ _ => rfl⟩
  have G : FwT (6 + n) t (sI t 118 (6 + n) 0) := ⟨fun o j h1 h2 h3 => by
    by_cases y : o = 118
    · subst y
      rw [sI_s, if_neg (by omega)]
    · rw [sI_n _ _ _ y], fun _ _ _ => rfl⟩
  have V : INVw (p + (14 + 2 * n)) (p + (15 + 2 * n)) (6 + n) h 0 (sI (sI s (p + (14 + 2 * n)) 6 0) (p + (14 + 2 * n)) 7 0) (sI t 118 (6 + n) 0) := ⟨by rw [sI_s, if_neg (by decide), sI_k, I_e0], by rw [sI_k, I_e0], fun k hk => absurd hk (by omega), fun k hk => absurd hk (by omega), by rw [sI_k]; rfl⟩
  obtain ⟨s', r1, r2⟩ := w_all hp hn hh c1 c2 N2 3 0 (by omega) B P _ _ T1 F G V
  have mm : ∀ r, (∀ f, f_X12_readsWants_l9 (I (6 + n)) (f + (3 + 1)) (wbits (fun k => (sI t 118 (6 + n) 0).1 117 (3 * (6 + n) + k)) 0) (sI t 118 (6 + n) 0) = r) → f_X12_readsWants (I (6 + n)) t = r := fun r hr => by
    unfold f_X12_readsWants
    rw [inb_t (by omega) (by omega), gd_t, ltb_t, I_nat (by omega)]
    exact hr 4996
  refine ⟨s', ?_, ?_⟩
  · unfold f_X5_readWants
    rw [ltb_t, ltb_t, ← I_e0]
    exact r1 4995
  · rcases r2 with ⟨B', P', t', m', b1, b2⟩ | ⟨B', P', t', t'', b1, b2⟩ | ⟨t', b1, b2⟩
    · exact Or.inl ⟨B', P', t', m', mm _ b1, b2⟩
    · exact Or.inr (Or.inl ⟨B', P', t', t'', mm _ b1, b2⟩)
    · exact Or.inr (Or.inr ⟨t', mm _ b1, b2⟩)
end WANTS
