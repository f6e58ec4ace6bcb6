/-! order told, by both -/
section LORDER
variable {p L c h n : Nat} {s t : HS}
def L3q (p : Nat) : List (Nat × Nat) := LF1 ++ [(p + 2, 0), (p + 3, 0)]
theorem L3_w (p : Nat) : (∀ k, wm (L3q p) (p + 2) k = true ∧ wm (L3q p) (p + 3) k = true) ∧ wsub LF1 (L3q p) = true := by
  refine ⟨fun k => ⟨?_, ?_⟩, ?_⟩
  · exact wm_all (List.any_eq_true.mpr ⟨(p + 2, 0), List.mem_append_right _ List.mem_cons_self, by simp⟩) k
  · exact wm_all (List.any_eq_true.mpr ⟨(p + 3, 0), List.mem_append_right _ (List.mem_cons_of_mem _ List.mem_cons_self), by simp⟩) k
  · unfold wsub
    refine List.all_eq_true.mpr fun q hq => List.any_eq_true.mpr ⟨q, List.mem_append_left _ hq, by simp⟩
theorem L3_o {p : Nat} {s s' : HS} (f : Fr (L3q p) s s') {o : Nat} (h1 : o ≠ 36) (h2 : o ≠ 0) (h3 : o ≠ p + 2) (h4 : o ≠ p + 3) (k : Nat) : s'.1 o k = s.1 o k ∧ s'.2.1 o k = s.2.1 o k := by
  have w : wm (L3q p) o k = false := by
    have w1 := wm_LF1 o k h1 o h2 rfl
    unfold L3q wm
    unfold wm at w1
    rw [List.any_append, w1]
    simp only [List.any_cons, List.any_nil, Bool.or_false, Bool.false_or, Bool.or_eq_false_iff, Bool.and_eq_false_iff, beq_eq_false_iff_ne]
    omega
  exact ⟨f.1 o k w, f.2.1 o k w⟩
theorem rd_o {t t' : HS} (f : Fr L_X12_reads t t') {o : Nat} {k : Nat} (h1 : ¬ Zm o k) (h2 : o = 101 → k ≠ 30) (h3 : o ≠ 122 ∧ o ≠ 123 ∧ o ≠ 124) : t'.1 o k = t.1 o k ∧ t'.2.1 o k = t.2.1 o k := by
  have w : wm L_X12_reads o k = false := by
    unfold Zm at h1
    unfold wm L_X12_reads
    simp only [List.any_cons, List.any_nil, Bool.or_false, Bool.or_eq_false_iff, Bool.and_eq_false_iff, beq_eq_false_iff_ne]
    omega
  exact ⟨f.1 o k w, f.2.1 o k w⟩
theorem l_order (hp : okX4 p = true) {B P m : Nat} (T : TK L B P s t) (hB : B < P) (D : DR p c h n s t) (hm : m < 256) (e1 : s.1 69 2 = I m) (e2 : t.1 101 31 = tbq m) (O : ORDq p m s t) :
    Res L B t (fun s' t' => DR p c h n s' t' ∧ ONCE p s' t' ∧ FR0 t t') (if s.1 69 2 &&& I (2 ^ 7) = 0 then bnd (f_X8_step (sI s 69 2 (s.1 69 2 ||| I (2 ^ 7)))) fun s17 => bnd (f_X3_readWhole (f_X3_readPart 8) (Rf p 8) 0 s17) fun s23 => f_X5_readLine_j161 s23 else bnd (f_X8_fail 3 s) fun s27 => f_X5_readLine_j161 s27) (f_X12_readsOrder t) := by
  obtain ⟨d1, d2, d3⟩ := id D
  obtain ⟨⟨hc, hh, hn⟩, -⟩ := id d1
  have q := p36 hp
  have hp0 : p ≠ 0 := (q 0 (by omega)).2.2.1
  have hp36 : p ≠ 36 := (q 0 (by omega)).1
  obtain ⟨x1, x2, -⟩ := qS_e hp
  obtain ⟨o0, o1⟩ := O
  have b1 := once_1 m hm 7 (by omega)
  have b2 := once_2 m hm 7 (by omega)
  have b5 := once_5 m hm
  unfold f_X12_readsOrder
  rw [e1, o0]
  rcases o1 with ⟨k1, k2, k3, k4⟩ | ⟨k1, C, R, E, k2, k3, k4, k5, k6, k7⟩
  · -- told for the first time
    have z : m.testBit 7 = false := by
      cases y : m.testBit 7 with
      | false => rfl
      | true => have := b5.1.mp y; omega
    rw [if_pos (b1.mpr z), (b2 z).1, k2, if_pos (Int32.le_refl _), x1]
    have T0 : TK L B P (sI s 69 2 (I (m + 2 ^ 7))) t := T.cI (by decide)
    obtain ⟨B1, P1, s1, t1, g1, g2, T1, g4, g5, g6⟩ := T0.next
    have g5 := g5.mono (show wsub LT1 LF1 = true by decide)
    have g6 := g6.mono (show wsub LT2 LF2 = true by decide)
    have zm : ∀ o j, o ≠ 101 → ¬ Zm o j := fun o j z1 z2 => z1 z2.1
    have t1o : ∀ o j, ¬ Zm o j → t1.1 o j = t.1 o j ∧ t1.2.1 o j = t.2.1 o j := fun o j w => ⟨g6.1 o j (wm_LF2 o j w), g6.2.1 o j (wm_LF2 o j w)⟩
    have t130 : t1.1 101 30 = I 1000 := by rw [(t1o 101 30 (by unfold Zm; omega)).1]; exact k3
    rw [g1, g2, bnd_t, bnd_t, ltb_t, t130]
    have T2 : TK L B1 P1 s1 (sI t1 120 1 (I 1000)) := T1.mI ⟨Or.inl (by decide), by decide⟩
    have cc : CCs p [] s1 := by
      refine ⟨?_, fun i hi => absurd hi (by simp)⟩
      rw [LF1_o g5 (q 2 (by omega)).1 (q 2 (by omega)).2.2.1, sI_o _ _ _ _ (q 2 (by omega)).2.2.2, k4, I0]
      rfl
    have rc : RCs [] (sI t1 120 1 (I 1000)) := by
      refine ⟨?_, fun i hi => absurd hi (by simp)⟩
      rw [sI_o _ _ _ _ (by decide), t130]
      rfl
    obtain ⟨s2, s3, r1, r2, r3⟩ := r_whole hp T2 cc rc
    have H3 := L3_w p
    have fw : Fr (L3q p) s1 s3 := by
      have a := b_whole (q := p + 2) (s0 := s1) H3.2 (fun k => ⟨(H3.1 k).1, by rw [x2]; exact (H3.1 k).2⟩) (b_part H3.2 (fun k => ⟨(H3.1 k).1, by rw [x2]; exact (H3.1 k).2⟩) 8) 0 (s := s1) Fr.refl _ r1
      exact b_sign H3.2 a 59 _ r2
    have so : ∀ o k, o ≠ 36 → o ≠ 0 → o ≠ p + 2 → o ≠ p + 3 → (o ≠ 69 ∨ k ≠ 2) → s3.1 o k = s.1 o k ∧ s3.2.1 o k = s.2.1 o k := fun o k h1 h2 h3 h4 h5 => by
      obtain ⟨w1, w2⟩ := L3_o fw h1 h2 h3 h4 k
      refine ⟨?_, ?_⟩
      · rw [w1, LF1_o g5 h1 h2, sI_at]
        by_cases y : o = 69
        · rw [if_pos y, if_neg (h5.resolve_left (fun w => w y)), y]
        · rw [if_neg y]
      · rw [w2, g5.2.1 o k (wm_LF1 o k h1 o h2 rfl)]; rfl
    have mo : ∀ t', Fr L_X12_reads (sI t1 120 1 (I 1000)) t' → ∀ o k, ¬ Zm o k → (o = 101 → k ≠ 30) → (o ≠ 122 ∧ o ≠ 123 ∧ o ≠ 124) → (o ≠ 120 ∨ k ≠ 1) → t'.1 o k = t.1 o k ∧ t'.2.1 o k = t.2.1 o k := fun t' f o k h1 h2 h3 h4 => by
      obtain ⟨w1, w2⟩ := rd_o f h1 h2 h3
      refine ⟨?_, ?_⟩
      · rw [w1, sI_at]
        by_cases y : o = 120
        · rw [if_pos y, if_neg (h4.resolve_left (fun w => w y)), y]
          exact (t1o 120 k (zm _ _ (by decide))).1
        · rw [if_neg y]; exact (t1o o k h1).1
      · rw [w2]; exact (t1o o k h1).2
    have lo : ∀ t' : HS, (∀ j, j < 1000 → t'.1 122 j = (sI t1 120 1 (I 1000)).1 122 j) → ∀ j, j < 1000 → t'.1 122 j = t.1 122 j := fun t' e j hj => by
      rw [e j hj, sI_o _ _ _ _ (by decide)]; exact (t1o 122 j (zm _ _ (by decide))).1
    have fr : ∀ t', Fr L_X12_reads (sI t1 120 1 (I 1000)) t' → (∀ j, j < 1000 → t'.1 122 j = (sI t1 120 1 (I 1000)).1 122 j) → FR0 t t' := fun t' f e o k r => by
      obtain ⟨w1, w2, w3, w4, w5, w6, w7, w8, w9, w10, w11⟩ := r
      by_cases y : o = 122
      · subst y
        exact ⟨lo t' e k (w9 rfl), fun z => absurd rfl z⟩
      · obtain ⟨u1, u2⟩ := mo t' f o k w1 (fun z => (w2 z).1) ⟨y, w10, w11⟩ (by
          by_cases y2 : o = 120
          · exact Or.inr (by have := w8 (Or.inl y2); omega)
          · exact Or.inl y2)
        exact ⟨u1, fun _ => u2⟩
    rw [r1, bnd_t]
    unfold f_X5_readLine_j161
    rw [r2, bnd_t]
    rcases r3 with ⟨B', P', t', C, R, E, v1, T3, v3, v4, v5, v6, v7, v8, v9⟩ | ⟨t', v1, v2, v3⟩
    · have f := w_X12_reads (sI t1 120 1 (I 1000)) _ v1
      have f : Fr L_X12_reads (sI t1 120 1 (I 1000)) t' := f
      rw [v1, bnd2_t, if_neg (by decide), ltb_t]
      have l1 := T1.le
      have T4 : TK L B' P' s3 (sI t' 121 1 (t'.1 101 30)) := T3.mI ⟨Or.inl (by decide), by decide⟩
      refine Or.inl ⟨B', P', s3, _, rfl, rfl, T4, by omega, ⟨?_, ?_, ?_⟩, ?_, ?_⟩
      · obtain ⟨-, u1, u2, u3⟩ := d1
        have m103 : ∀ k, (sI t' 121 1 (t'.1 101 30)).1 103 k = t.1 103 k := fun k => by rw [sI_o _ _ _ _ (by decide)]; exact (mo t' f 103 k (zm _ _ (by decide)) (fun z => absurd z (by decide)) ⟨by decide, by decide, by decide⟩ (Or.inl (by decide))).1
        refine ⟨⟨hc, hh, hn⟩, ⟨?_, ?_⟩, ⟨?_, ?_⟩, ⟨?_, ?_⟩⟩
        · rw [(so p _ hp36 hp0 (by omega) (by omega) (Or.inr (by decide))).1]; exact u1.1
        · rw [m103]; exact u1.2
        · rw [(so p _ hp36 hp0 (by omega) (by omega) (Or.inr (by decide))).1]; exact u2.1
        · rw [m103]; exact u2.2
        · rw [(so p _ hp36 hp0 (by omega) (by omega) (Or.inr (by decide))).1]; exact u3.1
        · rw [m103]; exact u3.2
      · have mm : ∀ o k, 103 ≤ o → o ≤ 119 → (sI t' 121 1 (t'.1 101 30)).1 o k = t.1 o k := fun o k h1 h2 => by rw [sI_o _ _ _ _ (by omega)]; exact (mo t' f o k (zm _ _ (by omega)) (fun z => absurd z (by omega)) ⟨by omega, by omega, by omega⟩ (Or.inl (by omega))).1
        have ss : ∀ j, j < 26 → j ≠ 2 → j ≠ 3 → ∀ k, s3.1 (p + j) k = s.1 (p + j) k := fun j hj h2 h3 k => (so (p + j) k (q j hj).1 (q j hj).2.2.1 (by omega) (by omega) (Or.inl (q j hj).2.2.2)).1
        exact d2.cg hp ⟨hc, hh, hn⟩ (fun k _ => ss 0 (by omega) (by omega) (by omega) k) (fun k _ => ss 1 (by omega) (by omega) (by omega) k) (fun i _ => ss 6 (by omega) (by omega) (by omega) i) (fun i hi k => ss (9 + i) (by omega) (by omega) (by omega) k) (fun i hi k => ⟨ss (14 + 2 * i) (by omega) (by omega) (by omega) k, ss (15 + 2 * i) (by omega) (by omega) (by omega) k⟩) (fun k _ _ => mm _ _ (by decide) (by decide)) (fun i _ => mm _ _ (by decide) (by decide)) (fun i hi o h1 h2 => mm _ _ (by omega) (by omega)) (fun i hi o ho => mm _ _ (by omega) (by omega)) (fun i hi k _ => mm _ _ (by decide) (by decide)) (fun k _ => mm _ _ (by decide) (by decide))
      · have mm : ∀ o k, 104 ≤ o → o ≤ 106 → (sI t' 121 1 (t'.1 101 30)).2.1 o k = t.2.1 o k := fun o k h1 h2 => (mo t' f o k (zm _ _ (by omega)) (fun z => absurd z (by omega)) ⟨by omega, by omega, by omega⟩ (Or.inl (by omega))).2
        have ss : ∀ j, j < 26 → j ≠ 2 → j ≠ 3 → ∀ k, s3.2.1 (p + j) k = s.2.1 (p + j) k := fun j hj h2 h3 k => (so (p + j) k (q j hj).1 (q j hj).2.2.1 (by omega) (by omega) (Or.inl (q j hj).2.2.2)).2
        exact d3.cg hp ⟨hc, hh, hn⟩ (fun i _ => ss 5 (by omega) (by omega) (by omega) i) (fun i hi => ss (9 + i) (by omega) (by omega) (by omega) 0) (fun i hi => ss (14 + 2 * i) (by omega) (by omega) (by omega) 0) (fun i _ => mm _ _ (by decide) (by decide)) (fun i _ => mm _ _ (by decide) (by decide)) (fun i _ => mm _ _ (by decide) (by decide))
      · refine ⟨m + 2 ^ 7, (b2 z).2, ?_, ?_, ?_, Or.inr ⟨by omega, C, R, E, v8, v6, v7, v4, ?_, ?_⟩⟩
        · rw [(L3_o fw (show 69 ≠ 36 from by decide) (show 69 ≠ 0 from by decide) (by have := q 2 (by omega); omega) (by have := q 3 (by omega); omega) 2).1, LF1_o g5 (by decide) (by decide), sI_k]
        · rw [sI_o _ _ _ _ (show 101 ≠ 121 from by decide), (mo t' f 101 31 (by unfold Zm; omega) (fun _ => by decide) ⟨by decide, by decide, by decide⟩ (Or.inl (by decide))).1, e2]
          exact (b5.2 z).symm
        · rw [sI_o _ _ _ _ (show 120 ≠ 121 from by decide), (rd_o f (o := 120) (k := 1) (zm _ _ (by decide)) (fun z => absurd z (by decide)) ⟨by decide, by decide, by decide⟩).1, sI_k]
        · rw [sI_k]; exact v5.1
        · exact v5.cg (by rw [sI_n _ _ _ (show 101 ≠ 121 from by decide)]) (by rw [sI_n _ _ _ (show 122 ≠ 121 from by decide)])
      · intro o k r
        have := fr t' f v9 o k r
        refine ⟨?_, this.2⟩
        rw [sI_at]
        by_cases y : o = 121
        · rw [if_pos y, if_neg (by have := r.2.2.2.2.2.2.2.1 (Or.inr y); omega)]; exact this.1
        · rw [if_neg y]; exact this.1
    · have f := w_X12_reads (sI t1 120 1 (I 1000)) _ v1
      have f : Fr L_X12_reads (sI t1 120 1 (I 1000)) t' := f
      rw [v1, bnd2_t, if_pos (Eq.refl _)]
      exact Or.inr ⟨s3, t', rfl, rfl, v2, fr t' f v3⟩
  · -- told twice
    have hR := (mv_all (g := g4 0 0 0 0) k2).1.2
    have z : ¬ m.testBit 7 = false := fun y => by
      have := b5.1.mpr k1
      rw [y] at this; cases this
    rw [if_neg (fun y => z (b1.mp y)), k6, if_neg (by rw [I_le (by omega) (by omega)]; omega)]
    refine f_fail T Wr.nil free_nil (by decide) (Q := fun _ => True) (DK.go fun s D _ => ?_) (fun _ _ => trivial)
    unfold f_X5_readLine_j161
    simp only [Dd.takeSign, D, bnd_t]
    exact ⟨s, rfl, D, rfl⟩
end LORDER
