section STD
variable {p d c h n a r : Nat} {s t s' t' : HS}
theorem DT.rowr (D : DT a r h n s t) (e1 : t'.1 135 r = t.1 135 r) (e2 : ∀ o, 136 ≤ o → o ≤ 138 → ∀ i, i < 40 → t'.1 o (40 * r + i) = t.1 o (40 * r + i)) (e3 : ∀ o, 139 ≤ o → o ≤ 144 → t'.1 o = t.1 o) : DT a r h n s t' := by
  obtain ⟨⟨m, m1, m2, m3, m4⟩, b2, b3⟩ := D
  refine ⟨⟨m, m1, m2, by rw [e1]; exact m3, fun i hi => ?_⟩, ?_, ?_⟩
  · rw [e2 136 (by omega) (by omega) _ (by omega), e2 137 (by omega) (by omega) _ (by omega), e2 138 (by omega) (by omega) _ (by omega)]
    exact m4 i hi
  · unfold SO at b2 ⊢
    rw [e3 139 (by omega) (by omega), e3 140 (by omega) (by omega), e3 141 (by omega) (by omega)]
    exact b2
  · unfold SE at b3 ⊢
    rw [e3 142 (by omega) (by omega), e3 143 (by omega) (by omega), e3 144 (by omega) (by omega)]
    exact b3
def LW5 : List (Nat × Nat) := [(135, 0), (136, 0), (137, 0), (138, 0)]
/-- the rows 1 .. 4 of the told lines stand: the marks stand -/
theorem MK.row14 (M : MK h n s t) (g : Fr LW5 t t') (e1 : ∀ k, 1 ≤ k → k < 5 → t'.1 135 k = t.1 135 k) (e2 : ∀ o, 136 ≤ o → o ≤ 138 → ∀ k, 40 ≤ k → k < 200 → t'.1 o k = t.1 o k) : MK h n s t' := by
  intro m hm
  obtain ⟨q1, q2, q3⟩ := M m hm
  have g149 : t'.1 149 = t.1 149 := g.o (by decide)
  refine ⟨by rw [g149]; exact q1, by rw [g149]; exact q2, fun w => ?_⟩
  rw [g149] at w
  obtain ⟨v1, v2⟩ := q3 w
  refine ⟨?_, v2.rowr (e1 _ (by omega) (by omega)) (fun o h1 h2 i hi => e2 o h1 h2 _ (by omega) (by omega)) (fun o h1 h2 => ?_)⟩
  · unfold HRm
    rw [g.o (show wo LW5 147 = false by decide), g.o (show wo LW5 103 = false by decide)]
    exact v1
  · exact g.o (by unfold wo LW5; simp; omega)
theorem Rel.row5 (R : Rel p d c h n s t) (g : Fr LW5 t t') (e1 : ∀ k, k < 5 → t'.1 135 k = t.1 135 k) (e2 : ∀ o, 136 ≤ o → o ≤ 138 → ∀ k, k < 200 → t'.1 o k = t.1 o k) : Rel p d c h n s t' := by
  have R' := R
  obtain ⟨-, -, b2, -, -, -, -, b7, b8, b9⟩ := R
  refine R'.asm (Fr.refl) (g.mono (by decide)) (b2.fr (Fr.refl (L := [])) g ⟨by decide, by decide⟩ ⟨by decide, by decide⟩) (b7.rowr (e1 0 (by omega)) (fun o h1 h2 i hi => e2 o h1 h2 _ (by omega)) (fun o h1 h2 => g.o (by unfold wo LW5; simp; omega))) (b8.row14 g (fun k _ hk => e1 k hk) (fun o h1 h2 k _ hk => e2 o h1 h2 k hk)) ?_
  unfold UN
  rw [g.1 101 60 (by decide), g.o (show wo LW5 148 = false by decide), g.o (show wo LW5 145 = false by decide), g.o (show wo LW5 103 = false by decide)]
  exact b9
theorem fr_symm {L : List (Nat × Nat)} (f : Fr L s t) : Fr L t s := ⟨fun o k w => (f.1 o k w).symm, fun o k w => (f.2.1 o k w).symm, fun w => (f.2.2.1 w).symm, fun w => (f.2.2.2.1 w).symm, fun w => (f.2.2.2.2.1 w).symm, fun w => (f.2.2.2.2.2.1 w).symm, fun w => (f.2.2.2.2.2.2 w).symm⟩
theorem av_X1 (hp : okX4 p = true) : av1 p L_X1_read = true ∧ avJ L_X1_read = true := by rcases okX4_c hp with rfl | rfl <;> decide
theorem st_days (R : Rel p d c h n s t) : ∃ x s' t', f_X11_days s = some (x, s') ∧ f_X12_days t = some (x, t') ∧ Rel p d c h n s' t' := by
  obtain ⟨t0, ht0⟩ : ∃ t0, t0 = sI t 101 0 0 := ⟨_, rfl⟩
  have R0' : Rel p d c h n s t0 := by rw [ht0]; exact R.t0
  obtain ⟨⟨r1, r2, hd, ne⟩, b1, -, -, b4, -, b6, -⟩ := id R0'
  obtain ⟨hp, C0, -⟩ := b1.x
  obtain ⟨L, h1, h2, h3, h4⟩ := b6
  obtain ⟨sX, hsA⟩ : ∃ sX, sX = sI (sI (sI s 71 2 0) 36 9 0) 36 3 0 := ⟨_, rfl⟩
  obtain ⟨t1, ht1⟩ : ∃ t1, t1 = sI (sI (sI t0 135 5 0) 101 3 (t0.1 101 1)) 101 1 0 := ⟨_, rfl⟩
  obtain ⟨tA, htA⟩ : ∃ tA, tA = sI t1 101 4 0 := ⟨_, rfl⟩
  have t1o : ∀ o, o ≠ 101 → o ≠ 135 → t1.1 o = t0.1 o := fun o z1 z2 => by rw [ht1, sI_n _ _ _ z1, sI_n _ _ _ z1, sI_n _ _ _ z2]
  have t1L : t1.2 = t0.2 := by rw [ht1]; rfl
  have t1101 : ∀ j, t1.1 101 j = if j = 1 then 0 else if j = 3 then t0.1 101 1 else t0.1 101 j := fun j => by rw [ht1, sI_s, sI_s, sI_n _ _ _ (show 101 ≠ 135 from by decide)]
  have t1135 : ∀ j, t1.1 135 j = if j = 5 then 0 else t0.1 135 j := fun j => by rw [ht1, sI_o _ _ _ _ (by decide), sI_o _ _ _ _ (by decide), sI_s]
  have sA36 : ∀ j, sX.1 36 j = if j = 3 then 0 else if j = 9 then 0 else s.1 36 j := fun j => by
    rw [hsA, sI_s, sI_s, sI_n _ _ _ (show 36 ≠ 71 from by decide)]
  have C : CH L sX tA := by
    refine ⟨h1, ?_, ?_, fun i hi => ?_⟩
    · rw [sA36, if_neg (by decide), if_neg (by decide)]; exact h2
    · rw [htA, sI_s, if_neg (by decide), t1101, if_neg (by decide), if_pos (Eq.refl _)]; exact h3
    · have a : sX.1 37 = s.1 37 := by rw [hsA, sI_n _ _ _ (by decide), sI_n _ _ _ (by decide), sI_n _ _ _ (by decide)]
      have b : tA.1 102 = t0.1 102 := by rw [htA, sI_n _ _ _ (by decide)]; exact t1o 102 (by decide) (by decide)
      rw [a, b]
      exact h4 i hi
  obtain ⟨B, Q, s5, t5, q1, q2, q3, q4, q5, q6⟩ := r_step C (by rw [sA36, if_neg (by decide), if_pos (Eq.refl _)]) (Nat.zero_le L) (by rw [sA36, if_pos (Eq.refl _), I0]) (by rw [htA, sI_k, I0])
  have q5 := q5.mono (show wsub LT1 LF1 = true by decide)
  have q6 := q6.mono (show wsub LT2 LF2 = true by decide)
  have F5 : FSd s s5 := fun o k z1 z2 z3 z4 => ⟨by rw [LF1_o q5 z1 z2, hsA, sI_o _ _ _ _ z1, sI_o _ _ _ _ z1, sI_o _ _ _ _ z3], by rw [q5.2.1 o k (wm_LF1 o k z1 o z2 rfl), hsA]; rfl⟩
  have G5 : FR5 t1 t5 := fun o k w => ⟨by
    rw [q6.1 o k (wm_LF2 o k w.1), htA, sI_at]
    by_cases y : o = 101
    · have := w.1
      unfold Zm at this
      rw [if_pos y, if_neg (by omega), y]
    · rw [if_neg y], by rw [q6.2.1 o k (wm_LF2 o k w.1), htA]; rfl⟩
  have C1 : CNT p 0 c h n s t1 := by
    unfold CNT
    rw [t1o 103 (by decide) (by decide)]
    exact C0
  have N1 : NMS p 0 c h n s t1 := by
    unfold NMS
    rw [show t1.2.1 = t0.2.1 from by rw [t1L]]
    exact b4
  have D5 : LNd h n 0 s5 t5 := by
    refine ⟨by omega, ?_, ?_, fun i hi => absurd hi (by omega)⟩
    · rw [LF1_o q5 (by decide) (by decide), hsA, sI_o _ _ _ _ (by decide), sI_o _ _ _ _ (by decide), sI_k, I0]
    · rw [q6.1 135 5 (wm_LF2 135 5 (by unfold Zm; omega)), htA, sI_o _ _ _ _ (by decide), t1135, if_pos (Eq.refl _), I0]
  obtain ⟨u, u1, u2⟩ := d_loop hp (L - B) B Q s5 t5 0 0 (Nat.le_refl _) q3 D5 (C1.d hp F5 G5) (N1.d hp C0.1 F5 G5) (by omega)
  have hle := q3.le
  have u1 := u1 FU (FU_lt (by omega))
  rw [I_e0] at u1
  have rd : f_X1_read p s = some (u.1 36 9, sI u 36 1 0) := by
    unfold f_X1_read f_X8_rewind
    rw [ltb_t, ltb_t, ltb_t, ← hsA, q1, bnd_t, bnd_t]
    exact u1
  have fw : Fr L_X1_read s (sI u 36 1 0) := w_X1_read p s _ rd
  obtain ⟨a1, a2⟩ := av_X1 hp
  -- the relation at the heaps as they are after reading
  have base : ∀ t2, FR5 t5 t2 → Rel p d c h n (sI u 36 1 0) t2 := fun t2 G => by
    have G1 : FR5 t1 t2 := G5.trans G
    obtain ⟨tx, hx⟩ : ∃ tx, tx = sA (sA (sA (sA t2 135 (t0.1 135)) 136 (t0.1 136)) 137 (t0.1 137)) 138 (t0.1 138) := ⟨_, rfl⟩
    have fx : Fr LW5 t2 tx := by
      rw [hx]
      exact (fr_sA (by decide)).trans ((fr_sA (by decide)).trans ((fr_sA (by decide)).trans (fr_sA (by decide))))
    have x135 : tx.1 135 = t0.1 135 := by rw [hx, sA_n _ _ _ (by decide), sA_n _ _ _ (by decide), sA_n _ _ _ (by decide), sA_k]
    have x136 : tx.1 136 = t0.1 136 := by rw [hx, sA_n _ _ _ (by decide), sA_n _ _ _ (by decide), sA_k]
    have x137 : tx.1 137 = t0.1 137 := by rw [hx, sA_n _ _ _ (by decide), sA_k]
    have x138 : tx.1 138 = t0.1 138 := by rw [hx, sA_k]
    have xo : ∀ o k, ¬ Zm o k → (o < 135 ∨ 138 < o) → (o = 101 → k ≠ 1 ∧ k ≠ 3) → tx.1 o k = t0.1 o k := fun o k z1 z2 z3 => by
      rw [fx.1 o k (by unfold wm LW5; simp; omega), (G1 o k ⟨z1, by omega, by omega⟩).1]
      by_cases y : o = 101
      · subst y
        have := z3 rfl
        rw [t1101, if_neg this.1, if_neg this.2]
      · rw [t1o o y (by omega)]
    have xL : ∀ o k, ¬ Zm o k → (o < 135 ∨ 138 < o) → tx.2.1 o k = t0.2.1 o k := fun o k z1 z2 => by
      rw [fx.2.1 o k (by unfold wm LW5; simp; omega), (G1 o k ⟨z1, by omega, by omega⟩).2, t1L]
    have RJ : Rel p d c h n (sI u 36 1 0) tx := by
      refine R0'.cgJ fw a1 a2 (fun o k w z => ?_) ⟨0, by omega, by rw [sI_k, I0], ?_, fun i hi => absurd hi (by omega)⟩
      · by_cases y : o < 135 ∨ 138 < o
        · exact ⟨xo o k w.1 y z, fun _ => xL o k w.1 y⟩
        · refine ⟨?_, fun q => by omega⟩
          rcases (show o = 135 ∨ o = 136 ∨ o = 137 ∨ o = 138 from by omega) with rfl | rfl | rfl | rfl
          · rw [x135]
          · rw [x136]
          · rw [x137]
          · rw [x138]
      · rw [fx.1 101 1 (by decide), (G1 101 1 (by unfold R5 Zm; omega)).1, t1101, if_pos (Eq.refl _), I0]
    refine RJ.row5 (fr_symm fx) (fun k hk => ?_) (fun o h1 h2 k hk => ?_)
    · rw [x135, (G1 135 k (by unfold R5 Zm; omega)).1, t1135, if_neg (by omega)]
    · rw [(G1 o k (by unfold R5 Zm; omega)).1, t1o o (by omega) (by omega)]
      rcases (show o = 136 ∨ o = 137 ∨ o = 138 from by omega) with rfl | rfl | rfl
      · rw [x136]
      · rw [x137]
      · rw [x138]
  have mr : ∀ (r : Option (Int32 × HS)), (∀ f, L - B < f → f_X12_days_l16 (fun s9 => bnd (f_X12_laysLines 5 0 s9) fun s11 => some (0, s11)) f t5 = r) → f_X12_days t = r := fun r hr => by
    unfold f_X12_days f_X12_starts
    rw [ltb_t, ← ht0, ltb_t, ltb_t, ltb_t, ltb_t]
    have e1 : (sI t0 135 5 0).1 101 1 = t0.1 101 1 := by rw [sI_o _ _ _ _ (by decide)]
    rw [e1, ← ht1, ← htA, q2, bnd_t, bnd_t]
    exact hr FU (FU_lt (by omega))
  unfold f_X11_days
  rw [r1, hp, gd_t, rd, bnd2_t]
  rcases u2 with ⟨t2, m, k9, k1, k2, k3, k4⟩ | ⟨t2, ⟨k0, k9⟩, k1, k2⟩
  · rw [k9, if_pos (Eq.refl _)]
    have R2 := base t2 k4
    obtain ⟨l1, l2, l3, l4⟩ := k2
    have e71 : (sI u 36 1 0).1 71 2 = I m := by rw [sI_o _ _ _ _ (by decide)]; exact l2
    have e3 : I m * 3 = I (3 * m) := by rw [show (3 : Int32) = I 3 from litI 3, I_mul, Nat.mul_comm]
    obtain ⟨t7, y1, y2, ⟨y3, y3'⟩, ⟨y4, y4'⟩, ⟨y5, y5'⟩, ⟨y6, y6'⟩⟩ := r_laysLines (t := t2) (r := 5) (r' := 0) (by omega) (by omega) (by omega)
    have y1 : f_X12_laysLines 5 0 t2 = some t7 := y1
    have tk : f_X7_takeLines 64 72 (I m) (sI u 36 1 0) = some (sI (sA (sI u 36 1 0) 66 (va_cpy (u.1 72) (u.1 66) (0 : Int32).toNatClampNeg (0 : Int32).toNatClampNeg (I (3 * m)).toNatClampNeg)) 64 6 (I m)) := by
      unfold f_X7_takeLines
      rw [e3]
      have ck : cpok 0 0 (I (3 * m)) (sk 72).2 120 = true := by
        unfold cpok
        rw [I_nat (by omega), show (0 : Int32).toNatClampNeg = 0 from by decide, show (sk 72).2 = 120 from by decide]
        have : ¬ I (3 * m) < 0 := by rw [I0, I_lt (by omega) (by omega)]; omega
        simp [this]
        omega
      rw [ck, gd_t, ltb_t, ltb_t, show Rf 64 5 = 66 from by decide, sI_n _ _ _ (show 72 ≠ 36 from by decide), sI_n _ _ _ (show 66 ≠ 36 from by decide)]
    rw [e71, tk, bnd_t]
    obtain ⟨s6, hs6⟩ : ∃ s6, s6 = sI (sA (sI u 36 1 0) 66 (va_cpy (u.1 72) (u.1 66) (0 : Int32).toNatClampNeg (0 : Int32).toNatClampNeg (I (3 * m)).toNatClampNeg)) 64 6 (I m) := ⟨_, rfl⟩
    rw [← hs6]
    have f6 : Fr [(66, 0), (64, 7)] (sI u 36 1 0) s6 := by rw [hs6]; exact (fr_sA (by decide)).trans (fr_sI (by decide))
    refine ⟨0, s6, t7, rfl, mr _ (fun f hf => by rw [k1 _ f hf, y1, bnd_t]), ?_⟩
    have R2' := R2
    obtain ⟨-, -, b2, -, -, -, -, ⟨b7, b7', b7''⟩, b8, b9⟩ := R2
    have g64 : ∀ j, j ≠ 6 → s6.1 64 j = (sI u 36 1 0).1 64 j := fun j hj => f6.1 64 j (by unfold wm; simp; omega)
    have y2' : Fr LW5 t2 t7 := y2
    refine R2'.asm (f6.mono (by decide)) (y2'.mono (by decide)) ?_ ⟨⟨m, l1, ?_, ?_, fun i hi => ?_⟩, ?_, ?_⟩ ?_ ?_
    · obtain ⟨g1, g2, g3, g4, g5, g6⟩ := b2
      have e65 : Rf 64 4 = 65 := by decide
      rw [e65] at g6
      refine ⟨g1, ?_, ?_, ?_, ?_, ?_⟩
      · rw [g64 0 (by decide), y2.o (by decide)]; exact g2
      · rw [g64 1 (by decide), y2.o (o := 145) (by decide), y2.o (o := 103) (by decide)]; exact g3
      · rw [g64 2 (by decide), y2.o (by decide)]; exact g4
      · rw [g64 3 (by decide), y2.o (by decide)]; exact g5
      · rw [e65, f6.o (by decide), y2.o (by decide)]; exact g6
    · rw [hs6, sI_k]
    · rw [y3 0 (by omega)]; exact l3
    · have s66 : ∀ j, j < 3 * m → s6.1 (64 + 2) j = u.1 72 j := fun j hj => by
        rw [hs6, sI_n _ _ _ (show 64 + 2 ≠ 64 from by decide), show 64 + 2 = 66 from rfl, sA_k, cpyN (by omega), if_pos hj]
      rw [s66 _ (by omega), s66 _ (by omega), s66 _ (by omega), y4 i (by omega), y5 i (by omega), y6 i (by omega)]
      exact l4 i hi
    · unfold SO at b7' ⊢
      rw [g64 8 (by decide), f6.o (o := 64 + 3) (by decide), y2.o (o := 139) (by decide), y2.o (o := 140) (by decide), y2.o (o := 141) (by decide)]
      exact b7'
    · unfold SE at b7'' ⊢
      rw [g64 10 (by decide), f6.o (o := 64 + 4) (by decide), y2.o (o := 142) (by decide), y2.o (o := 143) (by decide), y2.o (o := 144) (by decide)]
      exact b7''
    · -- the marks
      have M1 : MK h n s6 t2 := fun i hi => by
        obtain ⟨v1, v2, v3⟩ := b8 i hi
        have z : ∀ j, j < 5 → wo [(66, 0), (64, 7)] (mS i + j) = false := fun j hj => by unfold wo mS; simp; omega
        have z0 := z 0 (by omega)
        rw [Nat.add_zero] at z0
        refine ⟨by rw [f6.o z0]; exact v1, v2, fun w => ?_⟩
        obtain ⟨w1, w2⟩ := v3 w
        refine ⟨?_, ?_⟩
        · unfold HRm
          rw [f6.o z0, f6.o (z 1 (by omega))]; exact w1
        · unfold DT LN SO SE at w2 ⊢
          rw [f6.o z0, f6.o (z 2 (by omega)), f6.o (z 3 (by omega)), f6.o (z 4 (by omega))]; exact w2
      exact M1.row14 y2 (fun k h1 h2 => y3' k (by omega)) (fun o h1 h2 k h3 h4 => by
        rcases (show o = 136 ∨ o = 137 ∨ o = 138 from by omega) with rfl | rfl | rfl
        · exact y4' k (by omega)
        · exact y5' k (by omega)
        · exact y6' k (by omega))
    · unfold UN
      rw [f6.1 1 10 (by decide), f6.o (o := 34) (by decide), y2.1 101 60 (by decide), y2.o (o := 148) (by decide), y2.o (o := 145) (by decide), y2.o (o := 103) (by decide)]
      exact b9
  · rw [if_neg k0.1]
    exact ⟨u.1 36 9, _, t2, rfl, by rw [mr _ (k1 _), k9], base t2 k2⟩
end STD
