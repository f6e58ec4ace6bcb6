/-! A thing told, by both -/
def ONS (p : Nat) (s t s' t' : HS) : Prop := (s'.1 69 2 = s.1 69 2 ∧ ∀ k, s'.1 (p + 2) k = s.1 (p + 2) k ∧ s'.1 (p + 3) k = s.1 (p + 3) k) ∧ t'.1 101 30 = t.1 101 30 ∧ t'.1 101 31 = t.1 101 31 ∧ ∀ k, t'.1 120 k = t.1 120 k ∧ t'.1 121 k = t.1 121 k ∧ t'.1 122 k = t.1 122 k
theorem sI_36 (s : HS) {o k : Nat} {x : Int32} (j : Nat) (h : o ≠ 36) : (sI s o k x).1 36 j = s.1 36 j := by rw [sI_n _ _ _ (Ne.symm h)]
theorem sL_36 (s : HS) {o k : Nat} {x : Int64} (j : Nat) : (sL s o k x).1 36 j = s.1 36 j := rfl
theorem DK.go {Q : HS → Prop} {K : HS → Option HS} (h : ∀ s, Dd s → Q s → ∃ s', K s = some s' ∧ Dd s' ∧ s'.1 36 9 = s.1 36 9) : DK Q K := h
theorem free_nil : free [] [] := ⟨fun w hw => absurd hw List.not_mem_nil, fun w hw => absurd hw List.not_mem_nil⟩
theorem free_I {W : List (Nat × Nat × Int32)} {V : List (Nat × Nat × Int64)} {o k : Nat} {x : Int32} (h : free W V) (r : ¬ R0 o k) : free ((o, k, x) :: W) V := ⟨fun w hw => by
  rcases List.mem_cons.mp hw with rfl | hw
  · exact r
  · exact h.1 w hw, h.2⟩
theorem free_L {W : List (Nat × Nat × Int32)} {V : List (Nat × Nat × Int64)} {o k : Nat} {x : Int64} (h : free W V) (r : ¬ R0 o k) : free W ((o, k, x) :: V) := ⟨h.1, fun w hw => by
  rcases List.mem_cons.mp hw with rfl | hw
  · exact r
  · exact h.2 w hw⟩
theorem bnd2_bs {σ β : Type} (x : Option σ) (a : Int32) (f : Int32 → σ → Option β) : bnd2 (bnd x fun s => some (a, s)) f = bnd x fun s => f a s := by
  cases x <;> rfl
section LTHING
variable {p L c h n : Nat} {s t : HS}
theorem l_thing (hp : okX4 p = true) {B P : Nat} (T : TK L B P s t) (hb : B < P) (D : DR p c h n s t) : Res L B t (fun s' t' => DR p c (h + 1) n s' t' ∧ ONS p s t s' t' ∧ FR0 t t') (bnd (f_X5_readThing p s) fun s33 => f_X5_readLine_j161 s33) (f_X12_readsThing t) := by
  obtain ⟨d1, d2, d3⟩ := id D
  obtain ⟨⟨hc, hh, hn⟩, -, ⟨c1, c2⟩, -⟩ := id d1
  have c2 : t.1 103 11 = I h := c2
  have q := p36 hp
  have e2 : (5 : Int32) + I h = I (5 + h) := by rw [show (5 : Int32) = I 5 from litI 5, I_add]
  unfold f_X5_readThing f_X12_readsThing f_X5_readLine_j161
  rw [c1, c2, e2, ltb_t (a := I (5 + h))]
  by_cases z : h < 5
  · obtain ⟨o3, ho3⟩ : ∃ o3, o3 = p + (9 + h) := ⟨_, rfl⟩
    have eo3 : Rf (Rf p 13) h = o3 := by rw [ho3]; exact tS_e hp z
    have ho : o3 ≠ 36 := by rw [ho3]; exact (q (9 + h) (by omega)).1
    have ho2 : o3 ≠ 37 := by rw [ho3]; exact (q (9 + h) (by omega)).2.1
    have hp36 : p ≠ 36 := (q 0 (by omega)).1
    have hp37 : p ≠ 37 := (q 0 (by omega)).2.1
    have i10 : inb (I (5 + h)) 10 = true := inb_t (by omega) (by omega)
    have k10 : (I (5 + h)).toNatClampNeg = 5 + h := I_nat (by omega)
    rw [if_pos (by rw [show (5 : Int32) = I 5 from litI 5, I_lt (by omega) (by omega)]; exact z), if_neg (by rw [show (10 : Int32) = I 10 from litI 10, I_inj (by omega) (by omega)]; omega), inb_t z (by omega), gd_t, I_nat (by omega), eo3]
    simp only [bnd_as, bnd_as2, ltb_t, bnd_t]
    refine f_step T Wr.nil Wr.nil (fun B1 P1 s1 t1 T1 hb1 w1 m1 _ _ => ?_)
    obtain ⟨y1, y2, y3⟩ := D.same hp w1 m1
    refine f_new hp T1 y1 y3 w1 m1 free_nil (Q := fun _ => True) (fun k => DK.go fun s D _ => ?_) (fun _ _ => trivial) (fun k w hk hw => ?_)
    · simp (maxDischargeDepth := 20) only [Dd.take, Dd.num, Dd.takeSign, Dd.one, Dd.sI, Dd.sL, D, ho, hp36, bnd_t, bnd2_t, ne_eq, not_false_eq_true, Nat.reduceLT]
      exact ⟨_, rfl, by simp (maxDischargeDepth := 20) only [Dd.sI, Dd.sL, D, ho, hp36, ne_eq, not_false_eq_true], by simp (maxDischargeDepth := 20) only [sI_36, sL_36, ho, hp36, ne_eq, not_false_eq_true]⟩
    refine f_step T1 w1 m1 (fun B2 P2 s2 t2 T2 hb2 w2 m2 _ _ => ?_)
    obtain ⟨B3, P3, hb3, T3⟩ : ∃ B3 P3, P1 ≤ B3 ∧ TK L B3 P3 (sL s2 o3 0 k) t2 := ⟨B2, P2, hb2, T2.cL ho⟩
    have w3 := w2.wL (o := o3) (k := 0) (x := k)
    have one : ∀ i : Nat, i < 3 → Res L B t (fun s' t' => DR p c (h + 1) n s' t' ∧ ONS p s t s' t' ∧ FR0 t t') (bnd (f_X8_step (sL s2 o3 0 k)) fun s10 => bnd (f_X8_take 1005 (sI s10 o3 1 (I i))) fun y => bnd2 (f_X8_takeNumber 1 60 y) fun a b => bnd (f_X8_take 1006 (sI b o3 2 a)) fun y => bnd2 (f_X8_takeNumber 1 99 y) fun a b => bnd (f_X8_take 1007 (sI b o3 3 a)) fun y => bnd2 (f_X8_takeNumber 0 99 y) fun a b => bnd (f_X8_take 1008 (sI b o3 4 a)) fun y => bnd2 (f_X8_takeNumber 0 20 y) fun a b => bnd (f_X8_takeSign 59 (sI (sI b o3 5 a) p 12 ((sI b o3 5 a).1 p 12 + 1))) fun s32 => some s32) (f_X12_readsThing_j92 (I (5 + h)) (t1.2.1 101 7) (I i) (I (5 + h)) t2) := by
      intro i hi
      unfold f_X12_readsThing_j92
      simp only [i10, k10, gd_t, ltb_t, sI_k]
      rw [if_pos (by rw [I0, I_le (by omega) (by omega)]; omega)]
      have T4 : TK L B3 P3 (sL s2 o3 0 k) (sI t2 108 (5 + h) (I i)) := T3.mI ⟨Or.inl (by decide), by decide⟩
      have m4 : Wm [(108, 5 + h, I i)] [] t (sI t2 108 (5 + h) (I i)) := m2.wI
      have f4 := free_I free_nil (o := 108) (k := 5 + h) (x := I i) (by unfold R0; omega)
      refine f_step T4 w3 m4 (fun B5 P5 s5 t5 T5 hb5 w5 m5 _ _ => ?_)
      refine f_both (T5.cI ⟨ho, ho2⟩) w5.wI m5 f4 (j := 5) (by omega) rfl (by decide +kernel) (Q := fun _ => True) (DK.go fun s D _ => ?_) (fun _ _ => trivial) (fun B6 P6 s6 t6 v6 T6 hb6 hv6 w6 m6 _ => ?_)
      · simp (maxDischargeDepth := 20) only [Dd.take, Dd.num, Dd.takeSign, Dd.one, Dd.sI, Dd.sL, D, ho, hp36, bnd_t, bnd2_t, ne_eq, not_false_eq_true, Nat.reduceLT]
        exact ⟨_, rfl, by simp (maxDischargeDepth := 20) only [Dd.sI, Dd.sL, D, ho, hp36, ne_eq, not_false_eq_true], by simp (maxDischargeDepth := 20) only [sI_36, sL_36, ho, hp36, ne_eq, not_false_eq_true]⟩
      rw [hv6.1]
      refine f_both ((T6.cI ⟨ho, ho2⟩).mI (o := 109) ⟨Or.inl (by decide), by decide⟩) w6.wI m6.wI (free_I f4 (by unfold R0; omega)) (j := 6) (by omega) rfl (by decide +kernel) (Q := fun _ => True) (DK.go fun s D _ => ?_) (fun _ _ => trivial) (fun B7 P7 s7 t7 v7 T7 hb7 hv7 w7 m7 _ => ?_)
      · simp (maxDischargeDepth := 20) only [Dd.take, Dd.num, Dd.takeSign, Dd.one, Dd.sI, Dd.sL, D, ho, hp36, bnd_t, bnd2_t, ne_eq, not_false_eq_true, Nat.reduceLT]
        exact ⟨_, rfl, by simp (maxDischargeDepth := 20) only [Dd.sI, Dd.sL, D, ho, hp36, ne_eq, not_false_eq_true], by simp (maxDischargeDepth := 20) only [sI_36, sL_36, ho, hp36, ne_eq, not_false_eq_true]⟩
      rw [hv7.1]
      refine f_both ((T7.cI ⟨ho, ho2⟩).mI (o := 110) ⟨Or.inl (by decide), by decide⟩) w7.wI m7.wI (free_I (free_I f4 (by unfold R0; omega)) (by unfold R0; omega)) (j := 7) (by omega) rfl (by decide +kernel) (Q := fun _ => True) (DK.go fun s D _ => ?_) (fun _ _ => trivial) (fun B8 P8 s8 t8 v8 T8 hb8 hv8 w8 m8 _ => ?_)
      · simp (maxDischargeDepth := 20) only [Dd.take, Dd.num, Dd.takeSign, Dd.one, Dd.sI, Dd.sL, D, ho, hp36, bnd_t, bnd2_t, ne_eq, not_false_eq_true, Nat.reduceLT]
        exact ⟨_, rfl, by simp (maxDischargeDepth := 20) only [Dd.sI, Dd.sL, D, ho, hp36, ne_eq, not_false_eq_true], by simp (maxDischargeDepth := 20) only [sI_36, sL_36, ho, hp36, ne_eq, not_false_eq_true]⟩
      rw [hv8.1]
      refine f_both ((T8.cI ⟨ho, ho2⟩).mI (o := 111) ⟨Or.inl (by decide), by decide⟩) w8.wI m8.wI (free_I (free_I (free_I f4 (by unfold R0; omega)) (by unfold R0; omega)) (by unfold R0; omega)) (j := 8) (by omega) rfl (by decide +kernel) (Q := fun _ => True) (DK.go fun s D _ => ?_) (fun _ _ => trivial) (fun B9 P9 s9 t9 v9 T9 hb9 hv9 w9 m9 _ => ?_)
      · simp (maxDischargeDepth := 20) only [Dd.take, Dd.num, Dd.takeSign, Dd.one, Dd.sI, Dd.sL, D, ho, hp36, bnd_t, bnd2_t, ne_eq, not_false_eq_true, Nat.reduceLT]
        exact ⟨_, rfl, by simp (maxDischargeDepth := 20) only [Dd.sI, Dd.sL, D, ho, hp36, ne_eq, not_false_eq_true], by simp (maxDischargeDepth := 20) only [sI_36, sL_36, ho, hp36, ne_eq, not_false_eq_true]⟩
      rw [hv9.1]
      have u1 : (sI s9 o3 5 v9).1 p 12 = I h := by
        have hne : p ≠ o3 := by omega
        have hp0 := (q 0 (by omega)).2.2.1
        rw [sI_n _ _ _ hne, w9.1 p 12 (by omega)]
        simp only [lk]
        rw [if_neg (by omega), if_neg (by omega), if_neg (by omega), if_neg (by omega)]
        exact c1
      have u2 : (sL (sI t9 112 (5 + h) v9) 105 (5 + h) (t1.2.1 101 7)).1 103 11 = I h := by
        show (sI t9 112 (5 + h) v9).1 103 11 = I h
        rw [sI_n _ _ _ (by decide), m9.1 103 11 (by unfold Zm; omega)]
        simp only [lk]
        rw [if_neg (by omega), if_neg (by omega), if_neg (by omega), if_neg (by omega)]
        exact c2
      rw [u1, u2, I_p1]
      have l3 := T3.le
      have l5 := T5.le
      have l6 := T6.le
      have l7 := T7.le
      have l8 := T8.le
      have l1 := T1.le
      have fin : free ((103, 11, I (h + 1)) :: (112, 5 + h, v9) :: (111, 5 + h, v8) :: (110, 5 + h, v7) :: (109, 5 + h, v6) :: [(108, 5 + h, I i)]) [(105, 5 + h, t1.2.1 101 7)] := free_I (free_L (free_I (free_I (free_I (free_I f4 (by unfold R0; omega)) (by unfold R0; omega)) (by unfold R0; omega)) (by unfold R0; omega)) (by unfold R0; omega)) (by unfold R0; omega)
      refine f_close (((((T9.cI ⟨ho, ho2⟩).cI ⟨hp36, hp37⟩).mI (o := 112) ⟨Or.inl (by decide), by decide⟩).mL (o := 105) (by decide)).mI (o := 103) ⟨Or.inl (by decide), by decide⟩) w9.wI.wI (Wr.wI (Wr.wL (Wr.wI m9))) fin (by omega) (fun B' P' s' t' T' w' m' => ?_)
      have hp0 := (q 0 (by omega)).2.2.1
      have ns : ∀ o j, o ≠ 36 → o ≠ 0 → o ≠ o3 → (o ≠ p ∨ j ≠ 12) → s'.1 o j = s.1 o j := fun o j z1 z2 z3 z4 => by
        rw [w'.1 o j (by omega)]
        simp only [lk]
        rw [if_neg (by omega), if_neg (by omega), if_neg (by omega), if_neg (by omega), if_neg (by omega), if_neg (by omega)]
      have nsL : ∀ o j, o ≠ 36 → o ≠ 0 → o ≠ o3 → s'.2.1 o j = s.2.1 o j := fun o j z1 z2 z3 => by
        rw [w'.2 o j (by omega)]
        simp only [lkL]
        rw [if_neg (by omega)]
      have nt : ∀ o j, ¬ Zm o j → (o ≠ 103 ∨ j ≠ 11) → (o < 108 ∨ 112 < o ∨ j ≠ 5 + h) → t'.1 o j = t.1 o j := fun o j z1 z2 z3 => by
        rw [m'.1 o j z1]
        simp only [lk]
        rw [if_neg (by omega), if_neg (by omega), if_neg (by omega), if_neg (by omega), if_neg (by omega), if_neg (by omega)]
      have ntL : ∀ o j, ¬ Zm o j → (o ≠ 105 ∨ j ≠ 5 + h) → t'.2.1 o j = t.2.1 o j := fun o j z1 z2 => by
        rw [m'.2 o j z1]
        simp only [lkL]
        rw [if_neg (by omega)]
      have zm : ∀ o j, o ≠ 101 → ¬ Zm o j := fun o j z1 z2 => z1 z2.1
      have q14 : ∀ j, j < 26 → p + j ≠ 36 ∧ p + j ≠ 0 := fun j hj => ⟨(q j hj).1, (q j hj).2.2.1⟩
      have vs : ∀ j v, lk ((p, 12, I (h + 1)) :: (o3, 5, v9) :: (o3, 4, v8) :: (o3, 3, v7) :: (o3, 2, v6) :: [(o3, 1, I i)]) o3 j (s.1 o3 j) = v → s'.1 o3 j = v := fun j v e => by
        rw [w'.1 o3 j (by have := q14 (9 + h) (by omega); omega)]; exact e
      have i1 : (1 : Int32).toInt = 1 := by decide
      have i0 : (0 : Int32).toInt = 0 := by decide
      have i60 : (60 : Int32).toInt = 60 := by decide
      have i99 : (99 : Int32).toInt = 99 := by decide
      have i20 : (20 : Int32).toInt = 20 := by decide
      have X : PLx p 1 c h n s' t' := d2.cg hp ⟨hc, hh, hn⟩ (fun k hk => ns p k hp36 (by omega) (by omega) (Or.inr (by omega))) (fun k _ => ns (p + 1) k (q14 1 (by omega)).1 (q14 1 (by omega)).2 (by omega) (Or.inl (by omega))) (fun i _ => ns (p + 6) i (q14 6 (by omega)).1 (q14 6 (by omega)).2 (by omega) (Or.inl (by omega))) (fun i hi k => ns _ _ (q14 (9 + i) (by omega)).1 (q14 (9 + i) (by omega)).2 (by omega) (Or.inl (by omega))) (fun i hi k => ⟨ns _ _ (q14 (14 + 2 * i) (by omega)).1 (q14 (14 + 2 * i) (by omega)).2 (by omega) (Or.inl (by omega)), ns _ _ (q14 (15 + 2 * i) (by omega)).1 (q14 (15 + 2 * i) (by omega)).2 (by omega) (Or.inl (by omega))⟩) (fun k _ _ => nt _ _ (zm _ _ (by decide)) (Or.inr (by omega)) (Or.inl (by decide))) (fun i _ => nt _ _ (zm _ _ (by decide)) (Or.inl (by decide)) (Or.inl (by decide))) (fun i hi o h1 h2 => nt _ _ (zm _ _ (by omega)) (Or.inl (by omega)) (Or.inr (Or.inr (by omega)))) (fun i hi o ho => nt _ _ (zm _ _ (by omega)) (Or.inl (by omega)) (Or.inr (Or.inl (by omega)))) (fun i hi k _ => nt _ _ (zm _ _ (by decide)) (Or.inl (by decide)) (Or.inr (Or.inl (by decide)))) (fun k _ => nt _ _ (zm _ _ (by decide)) (Or.inl (by decide)) (Or.inr (Or.inl (by decide))))
      have Y : NMS p 1 c h n s' t' := d3.cg hp ⟨hc, hh, hn⟩ (fun i _ => nsL _ _ (q14 5 (by omega)).1 (q14 5 (by omega)).2 (by omega)) (fun i hi => nsL _ _ (q14 (9 + i) (by omega)).1 (q14 (9 + i) (by omega)).2 (by omega)) (fun i hi => nsL _ _ (q14 (14 + 2 * i) (by omega)).1 (q14 (14 + 2 * i) (by omega)).2 (by omega)) (fun i _ => ntL _ _ (zm _ _ (by decide)) (Or.inl (by decide))) (fun i hi => ntL _ _ (zm _ _ (by decide)) (Or.inr (by omega))) (fun i _ => ntL _ _ (zm _ _ (by decide)) (Or.inl (by decide)))
      refine ⟨⟨?_, ?_, ?_⟩, ?_, Wm.r0 m' fin⟩
      · obtain ⟨-, g1, g2, g3⟩ := d1
        refine ⟨⟨hc, by omega, hn⟩, ⟨?_, ?_⟩, ⟨?_, ?_⟩, ⟨?_, ?_⟩⟩
        · rw [ns _ _ hp36 (by omega) (by omega) (Or.inr (by omega))]; exact g1.1
        · rw [nt _ _ (zm _ _ (by decide)) (Or.inr (by omega)) (Or.inl (by decide))]; exact g1.2
        · rw [w'.1 p 12 (by omega)]; simp only [lk]; rw [if_pos (by first | omega | simp)]
        · rw [m'.1 103 _ (zm _ _ (by decide))]; simp only [lk]; rw [if_pos (by first | omega | simp)]
        · rw [ns _ _ hp36 (by omega) (by omega) (Or.inr (by omega))]; exact g3.1
        · rw [nt _ _ (zm _ _ (by decide)) (Or.inr (by omega)) (Or.inl (by decide))]; exact g3.2
      · refine ⟨X.1, X.2.1, fun j hj => ?_, fun j hj => (X.2.2.2.1 j hj).mono (Nat.le_refl _) (by omega), X.2.2.2.2⟩
        by_cases y : j < h
        · exact X.2.2.1 j y
        · have y : j = h := by omega
          subst y
          unfold PLt
          rw [tS_e hp z, ← ho3]
          have tv : ∀ o v, 108 ≤ o → o ≤ 112 → lk ((103, 11, I (j + 1)) :: (112, 5 + j, v9) :: (111, 5 + j, v8) :: (110, 5 + j, v7) :: (109, 5 + j, v6) :: [(108, 5 + j, I i)]) o (5 + j) (t.1 o (5 + j)) = v → t'.1 o (5 * 1 + j) = v := fun o v z1 z2 e => by
            rw [m'.1 o (5 * 1 + j) (zm _ _ (by omega))]; exact e
          refine ⟨⟨(vs 1 (I i) ?_).trans (tv 108 (I i) (by omega) (by omega) ?_).symm, ?_⟩, ⟨(vs 2 v6 ?_).trans (tv 109 v6 (by omega) (by omega) ?_).symm, ?_⟩, ⟨(vs 3 v7 ?_).trans (tv 110 v7 (by omega) (by omega) ?_).symm, ?_⟩, ⟨(vs 4 v8 ?_).trans (tv 111 v8 (by omega) (by omega) ?_).symm, ?_⟩, ⟨(vs 5 v9 ?_).trans (tv 112 v9 (by omega) (by omega) ?_).symm, ?_⟩⟩
          · simp only [lk]; rw [if_neg (by omega), if_neg (by omega), if_neg (by omega), if_neg (by omega), if_neg (by omega), if_pos (by first | omega | simp)]
          · simp only [lk]; rw [if_neg (by omega), if_neg (by omega), if_neg (by omega), if_neg (by omega), if_neg (by omega), if_pos (by first | omega | simp)]
          · rw [tv 108 (I i) (by omega) (by omega) (by simp only [lk]; rw [if_neg (by omega), if_neg (by omega), if_neg (by omega), if_neg (by omega), if_neg (by omega), if_pos (by first | omega | simp)]), I_toInt (by omega)]; omega
          · simp only [lk]; rw [if_neg (by omega), if_neg (by omega), if_neg (by omega), if_neg (by omega), if_pos (by first | omega | simp)]
          · simp only [lk]; rw [if_neg (by omega), if_neg (by omega), if_neg (by omega), if_neg (by omega), if_pos (by first | omega | simp)]
          · rw [tv 109 v6 (by omega) (by omega) (by simp only [lk]; rw [if_neg (by omega), if_neg (by omega), if_neg (by omega), if_neg (by omega), if_pos (by first | omega | simp)])]; have := hv6.2; omega
          · simp only [lk]; rw [if_neg (by omega), if_neg (by omega), if_neg (by omega), if_pos (by first | omega | simp)]
          · simp only [lk]; rw [if_neg (by omega), if_neg (by omega), if_neg (by omega), if_pos (by first | omega | simp)]
          · rw [tv 110 v7 (by omega) (by omega) (by simp only [lk]; rw [if_neg (by omega), if_neg (by omega), if_neg (by omega), if_pos (by first | omega | simp)])]; have := hv7.2; omega
          · simp only [lk]; rw [if_neg (by omega), if_neg (by omega), if_pos (by first | omega | simp)]
          · simp only [lk]; rw [if_neg (by omega), if_neg (by omega), if_pos (by first | omega | simp)]
          · rw [tv 111 v8 (by omega) (by omega) (by simp only [lk]; rw [if_neg (by omega), if_neg (by omega), if_pos (by first | omega | simp)])]; have := hv8.2; omega
          · simp only [lk]; rw [if_neg (by omega), if_pos (by first | omega | simp)]
          · simp only [lk]; rw [if_neg (by omega), if_pos (by first | omega | simp)]
          · rw [tv 112 v9 (by omega) (by omega) (by simp only [lk]; rw [if_neg (by omega), if_pos (by first | omega | simp)])]; have := hv9.2; omega
      · refine ⟨Y.1, fun j hj => ?_, Y.2.2⟩
        by_cases y : j < h
        · exact Y.2.1 j y
        · have y : j = h := by omega
          subst y
          rw [tS_e hp z, ← ho3, w'.2 o3 0 (by have := q14 (9 + j) (by omega); omega), m'.2 105 _ (zm _ _ (by decide))]
          simp only [lkL]
          rw [if_pos (by first | omega | simp), if_pos (by first | omega | simp), hw]
          exact hk
      · exact ⟨⟨ns 69 2 (by decide) (by decide) (by have := q (9 + h) (by omega); omega) (Or.inr (by decide)), fun j => ⟨ns _ _ (q14 2 (by omega)).1 (q14 2 (by omega)).2 (by omega) (Or.inl (by omega)), ns _ _ (q14 3 (by omega)).1 (q14 3 (by omega)).2 (by omega) (Or.inl (by omega))⟩⟩, nt _ _ (by unfold Zm; omega) (Or.inl (by decide)) (Or.inl (by decide)), nt _ _ (by unfold Zm; omega) (Or.inl (by decide)) (Or.inl (by decide)), fun j => ⟨nt _ _ (zm _ _ (by decide)) (Or.inl (by decide)) (Or.inr (Or.inl (by decide))), nt _ _ (zm _ _ (by decide)) (Or.inl (by decide)) (Or.inr (Or.inl (by decide))), nt _ _ (zm _ _ (by decide)) (Or.inl (by decide)) (Or.inr (Or.inl (by decide)))⟩⟩
    have ej : ∀ i, (i = 0 → f_X12_isWord 14716 t2 = 1) → (i = 1 → f_X12_isWord 14716 t2 = 0 ∧ f_X12_isWord 385495 t2 = 1) → (i = 2 → f_X12_isWord 14716 t2 = 0 ∧ f_X12_isWord 385495 t2 = 0 ∧ f_X12_isWord 11912 t2 = 1) → i < 3 → (if f_X12_isWord 14716 t2 = 0 then (if f_X12_isWord 385495 t2 = 0 then (if f_X12_isWord 11912 t2 = 0 then f_X12_readsThing_j92 (I (5 + h)) (t1.2.1 101 7) (-1) (I (5 + h)) t2 else f_X12_readsThing_j92 (I (5 + h)) (t1.2.1 101 7) 2 (I (5 + h)) t2) else f_X12_readsThing_j92 (I (5 + h)) (t1.2.1 101 7) 1 (I (5 + h)) t2) else f_X12_readsThing_j92 (I (5 + h)) (t1.2.1 101 7) 0 (I (5 + h)) t2) = f_X12_readsThing_j92 (I (5 + h)) (t1.2.1 101 7) (I i) (I (5 + h)) t2 := fun i h0 h1 h2 hi => by
      rcases (show i = 0 ∨ i = 1 ∨ i = 2 from by omega) with rfl | rfl | rfl
      · rw [if_neg (by rw [h0 rfl]; decide), I_e0]
      · rw [if_pos (h1 rfl).1, if_neg (by rw [(h1 rfl).2]; decide)]; exact Eq.refl _
      · rw [if_pos (h2 rfl).1, if_pos (h2 rfl).2.1, if_neg (by rw [(h2 rfl).2.2]; decide)]; exact Eq.refl _
    have tn := T3.tone (a := 24) (b := 25) (c := 26) (by omega) (by omega) (by omega)
    rw [show w27 24 = 14716 from by decide +kernel, show w27 25 = 385495 from by decide +kernel, show w27 26 = 11912 from by decide +kernel] at tn
    rcases tn with ⟨i, hi, e, h0, h1, h2⟩ | ⟨e, h0, h1, h2⟩
    · rw [ej i h0 h1 h2 hi]
      have e : f_X8_takeOneOf 1024 1025 1026 (sL s2 o3 0 k) = bnd (f_X8_step (sL s2 o3 0 k)) fun s' => some (I i, s') := e
      rw [e, bnd2_bs]
      exact one i hi
    · rw [if_pos h0, if_pos h1, if_pos h2]
      have e : f_X8_takeOneOf 1024 1025 1026 (sL s2 o3 0 k) = bnd (f_X8_fail 1 (sL s2 o3 0 k)) fun s' => some (2, s') := e
      rw [e, bnd2_bs]
      unfold f_X12_readsThing_j92
      simp only [i10, k10, gd_t, ltb_t, sI_k]
      rw [if_neg (by decide)]
      refine f_fail (T3.mI (o := 108) ⟨Or.inl (by decide), by decide⟩) (Wr.wI m2) (free_I free_nil (by unfold R0; omega)) (by decide) (Q := fun _ => True) (DK.go fun s D _ => ?_) (fun _ _ => trivial)
      simp (maxDischargeDepth := 20) only [Dd.take, Dd.num, Dd.takeSign, Dd.one, Dd.sI, Dd.sL, D, ho, hp36, bnd_t, bnd2_t, ne_eq, not_false_eq_true, Nat.reduceLT]
      exact ⟨_, rfl, by simp (maxDischargeDepth := 20) only [Dd.sI, Dd.sL, D, ho, hp36, ne_eq, not_false_eq_true], by simp (maxDischargeDepth := 20) only [sI_36, sL_36, ho, hp36, ne_eq, not_false_eq_true]⟩
  · rw [if_neg (by rw [show (5 : Int32) = I 5 from litI 5, I_lt (by omega) (by omega)]; exact z), if_pos (by rw [show (10 : Int32) = I 10 from litI 10, I_inj (by omega) (by omega)]; omega)]
    simp only [bnd_as, bnd_t]
    refine f_fail T Wr.nil ⟨fun w hw => absurd hw List.not_mem_nil, fun w hw => absurd hw List.not_mem_nil⟩ (by decide) (Q := fun _ => True) (DK.go fun s D _ => ?_) (fun _ _ => trivial)
    simp only [Dd.takeSign, D, bnd_t]
    exact ⟨s, rfl, D, rfl⟩
end LTHING
