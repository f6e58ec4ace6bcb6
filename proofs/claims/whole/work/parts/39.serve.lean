/-! The women serve, second by second, and from event to event -/
theorem sI_at (s : HS) (o k : Nat) (x : Int32) (o' k' : Nat) : (sI s o k x).1 o' k' = if o' = o then (if k' = k then x else s.1 o' k') else s.1 o' k' := by
  show up2 s.1 o k x o' k' = _
  unfold up2
  exact Eq.refl _
section SERVE
variable {p a c h n : Nat} {s t : HS}
theorem SR.upd {s' t' : HS} {L M : List (Nat × Nat)} (S : SR p a c h n s t) (f : Fr L s s') (g : Fr M t t') (h1 : av5 p a L = true) (h3 : av7 M = true) (hL : wo L 74 = false ∧ wo L 75 = false)
    (h4 : ∀ i, i < n → s'.1 76 i = t'.1 150 i ∧ (t'.1 150 i = -1 ∨ 0 ≤ (t'.1 150 i).toInt) ∧ s'.1 77 i = t'.1 151 i ∧ (t'.1 151 i = -1 ∨ (0 ≤ (t'.1 151 i).toInt ∧ (t'.1 151 i).toInt ≤ 5000)) ∧ ((s'.1 73 16) >>> (I i &&& 31)) &&& 1 = t'.1 155 i ∧ (t'.1 150 i = -1 → t'.1 155 i = 0))
    (h5 : ∀ w, w < 2 → s'.1 80 w = t'.1 156 w ∧ 0 ≤ (t'.1 156 w).toInt) (h6 : t.1 101 64 = -1 ∨ EqB (s'.1 73 6) (t'.1 101 65) 0 12) (h7 : ∃ k, k < 2 ^ n ∧ s'.1 73 16 = I k) : SR p a c h n s' t' := by
  obtain ⟨b1, b2, b3, b4, b5, b6, b7, b8, b9, b10⟩ := S
  obtain ⟨i1, i2, i3, i4, i5⟩ := av5_e h1
  obtain ⟨j1, j2, j3⟩ := av7_e h3
  obtain ⟨j4, j5⟩ := av3_e j1
  have m0 : t'.1 103 = t.1 103 := av2_o j4 g (k := 0) (by omega)
  refine ⟨b1.fr f g i1 j4, by rw [f.2.2.2.2.1 i4]; exact b2, by rw [f.2.2.2.2.2.1 i5]; exact b3, b4.fr f g i2 ⟨j5, by
    have := List.all_eq_true.mp j4 0 (by decide)
    simpa using this⟩, b5.fr f g i3 j2, b6.fr b1.1 f g i1 j3, ?_, h5, ?_, h7⟩
  · intro i hi
    obtain ⟨c1, c2, c3, c4, -⟩ := b7 i hi
    refine ⟨?_, ?_, ?_, ?_, h4 i hi⟩
    · rw [comes_fr g j1, f.o hL.1]; exact c1
    · rw [f.o hL.1]; exact c2
    · rw [goes_fr g j1, f.o hL.2]; exact c3
    · rw [f.o hL.2, m0]; exact c4
  · have e : t'.1 101 64 = t.1 101 64 := by
      simp only [avq2, List.all_cons, List.all_nil, Bool.and_true, Bool.and_eq_true, Bool.not_eq_true'] at j2
      exact g.1 _ _ j2.2.2.2.1
    rw [e]; exact h6
theorem okX7_av2 : ∀ a, a = 28 ∨ a = 64 ∨ a = 81 ∨ a = 86 ∨ a = 91 ∨ a = 96 → (∀ p, p = 2 ∨ p = 38 → av5 p a L_X6_begin = true ∧ av5 p a [(80, 0)] = true) := by
  intro a ha p hp
  rcases ha with rfl | rfl | rfl | rfl | rfl | rfl <;> rcases hp with rfl | rfl <;> exact ⟨by decide +kernel, by decide +kernel⟩
theorem nar0 : vp_nar .boolean (0 : Int32) = 0 := by decide
theorem nar1 : vp_nar .boolean (1 : Int32) = 1 := by decide
/-- one begins to be served -/
theorem r_begin (S : SR p a c h n s t) {j K : Nat} (hj : j < n) (hK : K ≤ 900) (hw : t.1 150 j = -1) :
    ∃ x s' t1, f_X6_begin (I j) (I K) s = some s' ∧ f_X12_lastsFor (I j) (sI t 150 j (I K)) = some (x, t1) ∧ SR p a c h n s' (sI t1 151 j (I K + x)) ∧ s'.1 77 j = I K + x ∧ (K : Int) < (I K + x).toInt ∧ Fr L_X6_begin s s' ∧ Fr [(150, 0), (151, 0), (155, 0), (101, 66)] t (sI t1 151 j (I K + x)) := by
  obtain ⟨b1, b2, b3, b4, b5, b6, b7, b8, b9, b10⟩ := id S
  have hn := b1.n6
  have j6 : inb (I j) 6 = true := inb_t (by omega) (by omega)
  have j12 : inb (I j) 12 = true := inb_t (by omega) (by omega)
  have jj : (I j).toNatClampNeg = j := I_nat (by omega)
  have hKi : (I K).toInt = K := I_toInt (by omega)
  obtain ⟨y, ys, y1, y2, y3, y4, y5⟩ := r_sum b1 b2 b5 hj
  obtain ⟨k1, -, -⟩ := b1.kind hj
  have hch : EqB (s.1 p 3) (t.1 103 6) 0 60 := by have := b1.sc.2.2.2.1; simpa using this
  have av := (okX7_av2 a (okX7_c b4.1) p (okX4_c b1.1)).1
  have f1 : Fr [(150, 0)] t (sI t 150 j (I K)) := fr_sI (by simp [wm])
  have e101 : (sI t 150 j (I K)).1 101 = t.1 101 := f1.o (by decide)
  have e103 : (sI t 150 j (I K)).1 103 = t.1 103 := f1.o (by decide)
  have e113 : (sI t 150 j (I K)).1 113 = t.1 113 := f1.o (by decide)
  have e109 : (sI t 150 j (I K)).1 109 = t.1 109 := f1.o (by decide)
  have e117 : (sI t 150 j (I K)).1 117 = t.1 117 := f1.o (by decide)
  have e118 : (sI t 150 j (I K)).1 118 = t.1 118 := f1.o (by decide)
  have P' : PL p 0 c h n s (sI t 150 j (I K)) := b1.fr (L := []) Fr.refl f1 (by rcases okX4_c b1.1 with rfl | rfl <;> decide) (by decide)
  have secs' : f_X12_secsOf (I j) (sI t 150 j (I K)) = some ys := by
    obtain ⟨z, z1, z2, -⟩ := r_secs P' hj
    obtain ⟨z', w1, w2, -⟩ := r_secs b1 hj
    rw [w1] at z1
    rw [w2] at y4
    rw [z2, ← z1, ← y4]
  -- the change that a pound one gets
  obtain ⟨w0, w1, w2, w3, w4⟩ : ∃ w0 : Int32, f_X6_begin (I j) (I K) s = f_X6_begin_j27 (I j) (I K) w0 s ∧ f_X12_lastsFor (I j) (sI t 150 j (I K)) = f_X12_lastsFor_j21 (I j) w0 (sI t 150 j (I K)) ∧ 0 ≤ w0.toInt ∧ w0.toInt ≤ 60 := by
    by_cases z : t.1 113 j = 1
    · refine ⟨t.1 103 6, ?_, ?_, hch.2.1, hch.2.2⟩
      · unfold f_X6_begin
        rw [b2, b1.1, gd_t, j6, gd_t, gd_t, jj, bS_f, k1, if_pos z, hch.1]
      · unfold f_X12_lastsFor
        rw [j12, gd_t, jj, e113, if_pos z, e103]
    · refine ⟨0, ?_, ?_, by decide, by decide⟩
      · unfold f_X6_begin
        rw [b2, b1.1, gd_t, j6, gd_t, jj, bS_f, k1, if_neg z]
      · unfold f_X12_lastsFor
        rw [j12, gd_t, jj, e113, if_neg z]
  have hwy : (w0 + y).toInt = w0.toInt + y.toInt := ti_add (by omega) (by omega)
  have pre1 := y1 (I K) w0 (fun v13 s14 => (if (s14.1 73 6) ≤ 0 then f_X6_begin_j153 (I j) (I K) v13 s14 else (if (s14.1 73 5) < 0 then f_X6_begin_j153 (I j) (I K) v13 s14 else gd (okX4 (s14.2.2.2.2.1)) (gd (inb (I j) 6) ((if (((s14.1 (Rf (Rf (s14.2.2.2.2.1) 15) (I j).toNatClampNeg) 7) >>> ((s14.1 73 5) &&& 31)) &&& (1 : Int32)) = 0 then f_X6_begin_j153 (I j) (I K) v13 s14 else ltb (sI s14 73 6 ((s14.1 73 6) - 1)) fun s24 => ltb (sI s24 73 16 ((s24.1 73 16) ||| ((1 : Int32) <<< (I j &&& 31)))) fun s25 => gd (okX4 (s25.2.2.2.2.1)) (gd (inb (s25.1 73 5) 5) (ltb (v13 + (1 - (s25.1 (Rf (Rf (s25.2.2.2.2.1) 13) (s25.1 73 5).toNatClampNeg) 2))) fun x28 => f_X6_begin_j153 (I j) (I K) x28 s25))))))))
  -- the end of both, where nothing stands poured for him
  have had0 : t.1 155 j = 0 := (b7 j hj).2.2.2.2.2.2.2.2.2 hw
  have plain : ∀ t1 : HS, (t1 = sI t 150 j (I K) ∨ t1 = sI (sI t 150 j (I K)) 155 j 0) → f_X6_begin (I j) (I K) s = f_X6_begin_j153 (I j) (I K) (w0 + y) s → f_X12_lastsFor (I j) (sI t 150 j (I K)) = some (w0 + y, t1) →
      ∃ x s' t1, f_X6_begin (I j) (I K) s = some s' ∧ f_X12_lastsFor (I j) (sI t 150 j (I K)) = some (x, t1) ∧ SR p a c h n s' (sI t1 151 j (I K + x)) ∧ s'.1 77 j = I K + x ∧ (K : Int) < (I K + x).toInt ∧ Fr L_X6_begin s s' ∧ Fr [(150, 0), (151, 0), (155, 0), (101, 66)] t (sI t1 151 j (I K + x)) := by
    intro t1 ht1 c1 c2
    have c1' : f_X6_begin (I j) (I K) s = some (sI (sI s 76 j (I K)) 77 j (I K + (w0 + y))) := by
      rw [c1]; unfold f_X6_begin_j153
      rw [j6, gd_t, jj, ltb_t, gd_t, ltb_t]
    have hx : (I K + (w0 + y)).toInt = K + (w0.toInt + y.toInt) := by rw [ti_add (by omega) (by omega), hKi, hwy]
    have fs : Fr L_X6_begin s (sI (sI s 76 j (I K)) 77 j (I K + (w0 + y))) := (fr_sI (wm_all (by decide) _)).trans (fr_sI (wm_all (by decide) _))
    have ft1 : Fr [(150, 0), (155, 0)] t t1 := by
      rcases ht1 with rfl | rfl
      · exact fr_sI (wm_all (by decide) _)
      · exact (fr_sI (wm_all (by decide) _)).trans (fr_sI (wm_all (by decide) _))
    have ft : Fr [(150, 0), (151, 0), (155, 0), (101, 66)] t (sI t1 151 j (I K + (w0 + y))) := (ft1.mono (by decide)).trans (fr_sI (wm_all (by decide) _))
    have t150 : ∀ i, t1.1 150 i = if i = j then I K else t.1 150 i := fun i => by
      rcases ht1 with rfl | rfl
      · rw [sI_s]
      · rw [sI_n _ _ _ (by decide), sI_s]
    have t151 : t1.1 151 = t.1 151 := ft1.o (by decide)
    have t155 : ∀ i, t1.1 155 i = t.1 155 i := fun i => by
      rcases ht1 with rfl | rfl
      · rw [sI_n _ _ _ (by decide)]
      · rw [sI_s, sI_n _ _ _ (by decide)]
        by_cases z : i = j
        · subst z; rw [if_pos (Eq.refl _), had0]
        · rw [if_neg z]
    refine ⟨w0 + y, _, t1, c1', c2, ?_, by rw [sI_k], by omega, fs, ft⟩
    refine S.upd fs ft av (by decide) (by decide) (fun i hi => ?_) (fun w hw => ?_) ?_ ?_
    · obtain ⟨-, -, -, -, d1, d2, d3, d4, d5, d6⟩ := b7 i hi
      rw [sI_n _ _ _ (by decide : (76 : Nat) ≠ 77), sI_s, sI_s, sI_n _ _ _ (by decide : (77 : Nat) ≠ 76), sI_n _ _ _ (by decide : (150 : Nat) ≠ 151), t150, sI_s, t151, sI_n _ _ _ (by decide : (73 : Nat) ≠ 77), sI_n _ _ _ (by decide : (73 : Nat) ≠ 76), sI_n _ _ _ (by decide : (155 : Nat) ≠ 151), t155]
      by_cases z : i = j
      · subst z
        rw [if_pos (Eq.refl _), if_pos (Eq.refl _), if_pos (Eq.refl _), if_pos (Eq.refl _)]
        exact ⟨rfl, Or.inr (by omega), rfl, Or.inr ⟨by omega, by omega⟩, d5, fun _ => had0⟩
      · rw [if_neg z, if_neg z, if_neg z, if_neg z]
        exact ⟨d1, d2, d3, d4, d5, d6⟩
    · rw [fs.o (by decide), ft.o (by decide)]; exact b8 w hw
    · rw [sI_n _ _ _ (by decide : (73 : Nat) ≠ 77), sI_n _ _ _ (by decide : (73 : Nat) ≠ 76), sI_n _ _ _ (by decide : (101 : Nat) ≠ 151), ft1.o (by decide)]; exact b9
    · rw [sI_n _ _ _ (by decide : (73 : Nat) ≠ 77), sI_n _ _ _ (by decide : (73 : Nat) ≠ 76)]; exact b10
  unfold f_X6_begin_j27 at w1
  rw [pre1] at w1
  rcases y5 with ⟨r1, r2, r3⟩ | ⟨r1, r2⟩
  · -- he fetches for all
    refine plain _ (Or.inl rfl) ?_ ?_
    · rw [w1]
      by_cases z : s.1 73 6 ≤ 0
      · rw [if_pos z]
      · rw [if_neg z, r2, if_pos (by decide)]
    · rw [w2]; unfold f_X12_lastsFor_j21
      rw [e101, if_pos r1, r3 w0 _ f1]
  · subst r2
    unfold f_X12_lastsFor_j21 at w2
    rw [e101, if_neg r1, secs', bnd_t, ltb_t] at w2
    have none1 : f_X12_lastsFor_j117 (I j) (w0 + y) (I j) (sI t 150 j (I K)) = some (w0 + y, sI (sI t 150 j (I K)) 155 j 0) := by
      unfold f_X12_lastsFor_j117 f_X12_lastsFor_j118
      rw [j6, gd_t, ltb_t, gd_t, jj, nar0, sI_k, if_pos (Eq.refl _)]
    rcases b5.2.2 with ⟨q1, q2⟩ | ⟨q, q0, q1, q2, q3⟩
    · refine plain _ (Or.inr rfl) ?_ ?_
      · rw [w1]
        by_cases z : s.1 73 6 ≤ 0
        · rw [if_pos z]
        · rw [if_neg z, q1, if_pos (by decide)]
      · rw [w2, q2, if_pos (by decide), none1]
    · have nq : ¬ I q < 0 := by rw [I0, I_lt (by omega) (by omega)]; omega
      have n1 : ¬ t.1 101 64 = -1 := by rw [q2]; exact I_nn (by omega)
      obtain ⟨st1, st2, st3⟩ := b9.resolve_left n1
      by_cases z : t.1 101 65 ≤ 0
      · refine plain _ (Or.inr rfl) ?_ ?_
        · rw [w1, st1, if_pos z]
        · rw [w2, q2, if_neg nq, if_pos z, none1]
      · obtain ⟨b, v1, v2, v3⟩ := r_wants b1 hj q0
        have qq : (I q).toNatClampNeg = q := I_nat (by omega)
        rw [q2, if_neg nq, if_neg z, v2 _ e117 e118, bnd_t] at w2
        rw [st1, if_neg z, q1, if_neg nq, b2, b1.1, gd_t, j6, gd_t, jj, bS_f, v1] at w1
        cases b with
        | false =>
          exact plain _ (Or.inr rfl) (by rw [w1, if_pos (by decide)]) (by rw [w2, if_pos (by decide), none1])
        | true =>
          obtain ⟨m, m1, m2, k, m3, m4⟩ := v3 rfl
          obtain ⟨o1, o2, o3⟩ := b1.secs q0
          obtain ⟨kk, kk1, kk2⟩ := b10
          have k64 : kk < 64 := Nat.lt_of_lt_of_le kk1 (Nat.pow_le_pow_right (by omega) hn.2.2)
          have qsec : (t.1 109 q).toInt ≤ y.toInt := by
            obtain ⟨z', z1, z2, -, -, z5⟩ := r_secs b1 hj
            rw [z2] at y4
            have := Option.some.inj y4
            subst this
            exact z5 m m1 m2 k m3 q q0 m4
          have z0 : 0 < (t.1 101 65).toInt := by
            rw [Int32.le_iff_toInt_le, Int32.toInt_zero] at z; omega
          have one_t : (1 : Int32).toInt = 1 := by decide
          have hx1 : (1 - t.1 109 q).toInt = 1 - (t.1 109 q).toInt := by rw [ti_sub (by omega) (by omega), one_t]
          have hx2 : (w0 + y + (1 - t.1 109 q)).toInt = w0.toInt + y.toInt + (1 - (t.1 109 q).toInt) := by rw [ti_add (by omega) (by omega), hwy, hx1]
          have hx : (I K + (w0 + y + (1 - t.1 109 q))).toInt = K + (w0.toInt + y.toInt + (1 - (t.1 109 q).toInt)) := by rw [ti_add (by omega) (by omega), hKi, hx2]
          have hm1 : (t.1 101 65 - 1).toInt = (t.1 101 65).toInt - 1 := by
            have e1 : (1 : Int32).toInt = 1 := by decide
            rw [ti_sub (by omega) (by omega), e1]
          rw [if_neg (by decide), ltb_t, ltb_t] at w1
          rw [if_neg (by decide)] at w2
          have q5 : inb (I q) 5 = true := inb_t (by omega) (by omega)
          have q10 : inb (I q) 10 = true := inb_t (by omega) (by omega)
          have fs1 : Fr L_X6_begin s (sI (sI s 73 6 (t.1 101 65 - 1)) 73 16 (((sI s 73 6 (t.1 101 65 - 1)).1 73 16) ||| ((1 : Int32) <<< (I j &&& 31)))) := (fr_sI (by decide)).trans (fr_sI (by decide))
          have o1' : s.1 (tS p q) 2 = t.1 109 q := o1
          have tSo : tS p q ≠ 73 := by rw [tS_e b1.1 (by omega)]; rcases okX4_c b1.1 with rfl | rfl <;> omega
          rw [fs1.2.2.2.2.1 (by decide), b2, b1.1, gd_t, fs1.1 73 5 (by decide), q1, q5, gd_t, ltb_t, qq, tS_f, sI_n _ _ _ tSo, sI_n _ _ _ tSo, o1'] at w1
          have c1' : f_X6_begin (I j) (I K) s = some (sI (sI (sI (sI s 73 6 (t.1 101 65 - 1)) 73 16 (((sI s 73 6 (t.1 101 65 - 1)).1 73 16) ||| ((1 : Int32) <<< (I j &&& 31)))) 76 j (I K)) 77 j (I K + (w0 + y + (1 - t.1 109 q)))) := by
            rw [w1]; unfold f_X6_begin_j153
            rw [j6, gd_t, jj, ltb_t, gd_t, ltb_t]
          have fs := fs1.trans ((fr_sI (L := L_X6_begin) (s := sI (sI s 73 6 (t.1 101 65 - 1)) 73 16 (((sI s 73 6 (t.1 101 65 - 1)).1 73 16) ||| ((1 : Int32) <<< (I j &&& 31)))) (o := 76) (k := j) (x := I K) (wm_all (by decide) _)).trans (fr_sI (o := 77) (k := j) (x := I K + (w0 + y + (1 - t.1 109 q))) (wm_all (by decide) _)))
          have c2' : f_X12_lastsFor (I j) (sI t 150 j (I K)) = some (w0 + y + (1 - t.1 109 q), sI (sI (sI t 150 j (I K)) 155 j 1) 101 65 (t.1 101 65 - 1)) := by
            rw [w2]; unfold f_X12_lastsFor_j118
            rw [j6, gd_t, ltb_t, gd_t, jj, nar1, sI_k, if_neg one_ne, ltb_t, sI_n _ _ _ (by decide : (101 : Nat) ≠ 155), sI_n _ _ _ (by decide : (101 : Nat) ≠ 150), sI_s, if_neg (by decide), sI_n _ _ _ (by decide : (101 : Nat) ≠ 155), sI_n _ _ _ (by decide : (101 : Nat) ≠ 150), q2, q10, gd_t, ltb_t, qq, sI_n _ _ _ (by decide : (109 : Nat) ≠ 101), sI_n _ _ _ (by decide : (109 : Nat) ≠ 155), sI_n _ _ _ (by decide : (109 : Nat) ≠ 150)]
          have ft : Fr [(150, 0), (151, 0), (155, 0), (101, 66)] t (sI (sI (sI (sI t 150 j (I K)) 155 j 1) 101 65 (t.1 101 65 - 1)) 151 j (I K + (w0 + y + (1 - t.1 109 q)))) := (((fr_sI (wm_all (by decide) _)).trans (fr_sI (wm_all (by decide) _))).trans (fr_sI (by decide))).trans (fr_sI (wm_all (by decide) _))
          refine ⟨_, _, _, c1', c2', ?_, by rw [sI_k], by omega, fs, ft⟩
          have e16 : (sI (sI (sI (sI s 73 6 (t.1 101 65 - 1)) 73 16 (((sI s 73 6 (t.1 101 65 - 1)).1 73 16) ||| ((1 : Int32) <<< (I j &&& 31)))) 76 j (I K)) 77 j (I K + (w0 + y + (1 - t.1 109 q)))).1 73 16 = I (kk ||| 2 ^ j) := by
            rw [sI_n _ _ _ (by decide : (73 : Nat) ≠ 77), sI_n _ _ _ (by decide : (73 : Nat) ≠ 76), sI_k, sI_s, if_neg (by decide), kk2, orb kk k64 j (by omega)]
          have or64 : kk ||| 2 ^ j < 2 ^ n := Nat.or_lt_two_pow kk1 (Nat.pow_lt_pow_right (by omega) hj)
          refine S.upd fs ft av (by decide) (by decide) (fun i hi => ?_) (fun w hw => ?_) (Or.inr ?_) ⟨_, or64, e16⟩
          · obtain ⟨-, -, -, -, d1, d2, d3, d4, d5, d6⟩ := b7 i hi
            rw [e16, bitb _ (Nat.lt_of_lt_of_le or64 (Nat.pow_le_pow_right (by omega) hn.2.2)) i (by omega), Nat.testBit_or, Nat.testBit_two_pow]
            rw [kk2, bitb kk k64 i (by omega)] at d5
            simp only [sI_at, Nat.reduceEqDiff, if_true, if_false]
            by_cases z : i = j
            · subst z
              rw [if_pos (Eq.refl _), if_pos (Eq.refl _), if_pos (Eq.refl _), if_pos (Eq.refl _), if_pos (Eq.refl _)]
              refine ⟨rfl, Or.inr (by omega), rfl, Or.inr ⟨by omega, by omega⟩, ?_, fun e => absurd e (I_nn (by omega))⟩
              simp
            · have z2 : ¬ j = i := fun e => z e.symm
              rw [if_neg z, if_neg z, if_neg z, if_neg z, if_neg z]
              refine ⟨d1, d2, d3, d4, ?_, d6⟩
              rw [← d5]
              simp [z2]
          · rw [fs.o (by decide), ft.o (by decide)]; exact b8 w hw
          · rw [sI_n _ _ _ (by decide : (73 : Nat) ≠ 77), sI_n _ _ _ (by decide : (73 : Nat) ≠ 76), sI_s, if_neg (by decide), sI_k, sI_n _ _ _ (by decide : (101 : Nat) ≠ 151), sI_k]
            exact ⟨rfl, by omega, by omega⟩
end SERVE
