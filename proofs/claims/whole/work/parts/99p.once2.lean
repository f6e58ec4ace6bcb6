/-! stop and late, of both -/
section ONCES3
variable {p L c h n : Nat} {s t : HS}
theorem ro_stop (p : Nat) (u : HS) : f_X5_readOnce p 1000 u = bnd2 (f_X8_takeNumber 60 900 u) fun y21 s22 => bnd (f_X8_take 1001 (sI s22 p 0 y21)) fun s25 => bnd2 (f_X8_takeNumber 1 (s25.1 p 0) s25) fun y26 s27 => some (sI s27 p 1 y26) := by
  unfold f_X5_readOnce
  rw [if_pos (Eq.refl _)]
  simp only [ltb_t]
theorem l_stop (hp : okX4 p = true) {B P m : Nat} (T : TK L B P s t) (hB : B < P) (D : DR p c h n s t) (hm : m < 256) (e1 : s.1 69 2 = I m) (e2 : t.1 101 31 = tbq m) (O : ORDq p m s t) :
    Res L B t (fun s' t' => DR p c h n s' t' ∧ ONCE p s' t' ∧ FR0 t t') (if s.1 69 2 &&& I (2 ^ 0) = 0 then bnd (f_X8_step (sI s 69 2 (s.1 69 2 ||| I (2 ^ 0)))) fun s17 => bnd (f_X5_readOnce p 1000 s17) fun s21 => f_X5_readLine_j161 s21 else bnd (f_X8_fail 3 s) fun s27 => f_X5_readLine_j161 s27) (f_X12_readsStop t) := by
  obtain ⟨d1, d2, d3⟩ := id D
  obtain ⟨⟨hc, hh, hn⟩, -⟩ := id d1
  have q := p36 hp
  have hp36 : p ≠ 36 := (q 0 (by omega)).1
  have hp37 : p ≠ 37 := (q 0 (by omega)).2.1
  have hp0 : p ≠ 0 := (q 0 (by omega)).2.2.1
  have hp69 : p ≠ 69 := (q 0 (by omega)).2.2.2
  unfold f_X12_readsStop
  refine f_twice (b := 0) T hm (by omega) e2 (by decide) (K := fun s => bnd (f_X8_step s) fun s17 => bnd (f_X5_readOnce p 1000 s17) fun s21 => f_X5_readLine_j161 s21) (fun z T0 => ?_) e1
  have o2 := once_2 m hm 0 (by omega)
  have o4 := once_4 m hm 0 (by omega)
  unfold f_X5_readLine_j161
  simp only [ro_stop, bnd_as, bnd_as2, ltb_t, bnd_t, gd_t]
  have hf : free [(101, 31, tbq (m + 2 ^ 0))] [] := free_I free_nil (by unfold R0; omega)
  refine f_step T0 (Wr.wI Wr.nil) (Wr.wI Wr.nil) (fun B1 P1 s1 t1 T1 hb1 w1 m1 _ _ => ?_)
  refine f_num T1 w1 m1 hf (Q := fun _ => True) (DK.go fun s D _ => ?_) (fun _ _ => trivial) (fun B2 P2 s2 t2 v2 T2 hb2 hv2 w2 m2 _ => ?_)
  · simp (maxDischargeDepth := 20) only [Dd.take, Dd.num, Dd.takeSign, Dd.sI, D, hp36, bnd_t, bnd2_t, ne_eq, not_false_eq_true, Nat.reduceLT]
    exact ⟨_, rfl, (D.sI hp36).sI hp36, by rw [sI_36 _ _ hp36, sI_36 _ _ hp36]⟩
  have f2 := free_I hf (o := 103) (k := 13) (x := v2) (by unfold R0; omega)
  have T3 : TK L B2 P2 (sI s2 p 0 v2) (sI t2 103 13 v2) := (T2.cI ⟨hp36, hp37⟩).mI ⟨Or.inl (by decide), by decide⟩
  have e44 : (sI t2 103 13 v2).1 101 44 = v2 := by rw [sI_n _ _ _ (show 101 ≠ 103 from by decide)]; exact hv2.1
  rw [hv2.1, e44]
  refine f_both2 T3 w2.wI (Wr.wI m2) f2 (j := 1) (by omega) rfl (by decide +kernel) (hi := v2) (hiF := fun u => u.1 p 0) (fun s1 f => by rw [LF1_o f hp36 hp0, sI_k]) (Q := fun _ => True) (K := fun _ y s' => bnd (f_X8_takeSign 59 (sI s' p 1 y)) fun s9 => some s9) (fun s3 f3 => DK.go fun s D _ => ?_) (fun _ _ => trivial) (fun s3 f3 B4 P4 s4 t4 v4 T4 hb4 hv4 w4 m4 f4 => ?_)
  · simp (maxDischargeDepth := 20) only [Dd.take, Dd.num, Dd.takeSign, Dd.sI, D, hp36, bnd_t, bnd2_t, ne_eq, not_false_eq_true, Nat.reduceLT]
    exact ⟨_, rfl, D.sI hp36, by rw [sI_36 _ _ hp36]⟩
  rw [hv4.1]
  have l1 := T1.le
  have l2 := T2.le
  have fin := free_I f2 (o := 103) (k := 14) (x := v4) (by unfold R0; omega)
  refine f_close ((T4.cI ⟨hp36, hp37⟩).mI (o := 103) ⟨Or.inl (by decide), by decide⟩) w4.wI (Wr.wI m4) fin (by omega) (fun B' P' s' t' T' w' m' => ?_)
  have ns : ∀ o j, o ≠ 36 → o ≠ 0 → (o ≠ 69 ∨ j ≠ 2) → (o ≠ p ∨ 2 ≤ j) → s'.1 o j = s.1 o j := fun o j z1 z2 z3 z4 => by
    rw [w'.1 o j (by omega)]
    simp only [lk]
    rw [if_neg (by omega), if_neg (by omega), if_neg (by omega)]
  have nsL : ∀ o j, o ≠ 36 → o ≠ 0 → s'.2.1 o j = s.2.1 o j := fun o j z1 z2 => by
    rw [w'.2 o j (by omega)]
    rfl
  have nt : ∀ o j, ¬ Zm o j → (o ≠ 101 ∨ j ≠ 31) → (o ≠ 103 ∨ (j ≠ 13 ∧ j ≠ 14)) → t'.1 o j = t.1 o j := fun o j z1 z2 z3 => by
    rw [m'.1 o j z1]
    simp only [lk]
    rw [if_neg (by omega), if_neg (by omega), if_neg (by omega)]
  have ntL : ∀ o j, ¬ Zm o j → t'.2.1 o j = t.2.1 o j := fun o j z1 => by
    rw [m'.2 o j z1]
    rfl
  have zm : ∀ o j, o ≠ 101 → ¬ Zm o j := fun o j z1 z2 => z1 z2.1
  have q14 : ∀ j, j < 26 → p + j ≠ 36 ∧ p + j ≠ 0 ∧ p + j ≠ 69 := fun j hj => ⟨(q j hj).1, (q j hj).2.2.1, (q j hj).2.2.2⟩
  have a0 : s'.1 p 0 = v2 := by
    rw [w'.1 p _ (by omega)]; simp only [lk]; rw [if_neg (by omega), if_pos (by first | omega | simp)]
  have a1 : s'.1 p 1 = v4 := by
    rw [w'.1 p _ (by omega)]; simp only [lk]; rw [if_pos (by first | omega | simp)]
  have b0 : t'.1 103 (10 * 1 + 3) = v2 := by
    rw [m'.1 103 _ (zm _ _ (by decide))]; simp only [lk]; rw [if_neg (by omega), if_pos (by first | omega | simp)]
  have b1 : t'.1 103 (10 * 1 + 4) = v4 := by
    rw [m'.1 103 _ (zm _ _ (by decide))]; simp only [lk]; rw [if_pos (by first | omega | simp)]
  have i1 : (1 : Int32).toInt = 1 := by decide
  have i60 : (60 : Int32).toInt = 60 := by decide
  have i900 : (900 : Int32).toInt = 900 := by decide
  have X : PLx p 1 c h n s' t' := by
    refine d2.cg2 hp ⟨hc, hh, hn⟩ ?_ (fun k _ => ns (p + 1) k (q14 1 (by omega)).1 (q14 1 (by omega)).2.1 (Or.inl (q14 1 (by omega)).2.2) (Or.inl (by omega))) (fun i _ => ns (p + 6) i (q14 6 (by omega)).1 (q14 6 (by omega)).2.1 (Or.inl (q14 6 (by omega)).2.2) (Or.inl (by omega))) (fun i hi k => ns _ _ (q14 (9 + i) (by omega)).1 (q14 (9 + i) (by omega)).2.1 (Or.inl (q14 (9 + i) (by omega)).2.2) (Or.inl (by omega))) (fun i hi k => ⟨ns _ _ (q14 (14 + 2 * i) (by omega)).1 (q14 (14 + 2 * i) (by omega)).2.1 (Or.inl (q14 (14 + 2 * i) (by omega)).2.2) (Or.inl (by omega)), ns _ _ (q14 (15 + 2 * i) (by omega)).1 (q14 (15 + 2 * i) (by omega)).2.1 (Or.inl (q14 (15 + 2 * i) (by omega)).2.2) (Or.inl (by omega))⟩) (fun i _ => nt _ _ (zm _ _ (by decide)) (Or.inl (by decide)) (Or.inl (by decide))) (fun i hi o h1 h2 => nt _ _ (zm _ _ (by omega)) (Or.inl (by omega)) (Or.inl (by omega))) (fun i hi o ho => nt _ _ (zm _ _ (by omega)) (Or.inl (by omega)) (Or.inl (by omega))) (fun i hi k _ => nt _ _ (zm _ _ (by decide)) (Or.inl (by decide)) (Or.inl (by decide))) (fun k _ => nt _ _ (zm _ _ (by decide)) (Or.inl (by decide)) (Or.inl (by decide)))
    obtain ⟨c0, c1, c2, c3, c4, c5, c6, c7⟩ := d2.1
    have sc : ∀ k, 2 ≤ k → k ≤ 6 → ∀ lo' hi', EqB (s.1 p k) (t.1 103 (10 * 1 + (k + 3))) lo' hi' → EqB (s'.1 p k) (t'.1 103 (10 * 1 + (k + 3))) lo' hi' := fun k k1 k2 lo' hi' e1 => by
      rw [ns p k hp36 hp0 (Or.inl hp69) (Or.inr k1), nt 103 _ (zm _ _ (by decide)) (Or.inl (by decide)) (Or.inr (by omega))]
      exact e1
    have bd := hv2.2
    have bd4 := hv4.2
    refine ⟨⟨by rw [a0, b0], by rw [b0]; omega⟩, ⟨by rw [a1, b1], by rw [b1]; omega⟩, sc 2 (by omega) (by omega) _ _ c2, sc 3 (by omega) (by omega) _ _ c3, sc 4 (by omega) (by omega) _ _ c4, sc 5 (by omega) (by omega) _ _ c5, sc 6 (by omega) (by omega) _ _ c6, ?_⟩
    rw [b0, b1]
    omega
  have Y : NMS p 1 c h n s' t' := d3.cg hp ⟨hc, hh, hn⟩ (fun i hi => nsL _ _ (q14 5 (by omega)).1 (q14 5 (by omega)).2.1) (fun i hi => nsL _ _ (q14 (9 + i) (by omega)).1 (q14 (9 + i) (by omega)).2.1) (fun i hi => nsL _ _ (q14 (14 + 2 * i) (by omega)).1 (q14 (14 + 2 * i) (by omega)).2.1) (fun i _ => ntL _ _ (zm _ _ (by decide))) (fun i hi => ntL _ _ (zm _ _ (by decide))) (fun i _ => ntL _ _ (zm _ _ (by decide)))
  refine ⟨⟨?_, X, Y⟩, ⟨m + 2 ^ 0, (o2 z).2, ?_, ?_, O.cg (o4 z).2 (fun k => ⟨ns _ _ (q14 2 (by omega)).1 (q14 2 (by omega)).2.1 (Or.inl (q14 2 (by omega)).2.2) (Or.inl (by omega)), ns _ _ (q14 3 (by omega)).1 (q14 3 (by omega)).2.1 (Or.inl (q14 3 (by omega)).2.2) (Or.inl (by omega))⟩) (nt _ _ (by unfold Zm; omega) (Or.inr (by decide)) (Or.inl (by decide))) (fun k => ⟨nt _ _ (zm _ _ (by decide)) (Or.inl (by decide)) (Or.inl (by decide)), nt _ _ (zm _ _ (by decide)) (Or.inl (by decide)) (Or.inl (by decide)), nt _ _ (zm _ _ (by decide)) (Or.inl (by decide)) (Or.inl (by decide))⟩)⟩, Wm.r0 m' fin⟩
  · unfold CNT
    rw [ns _ _ hp36 hp0 (Or.inl hp69) (Or.inr (by omega)), ns _ _ hp36 hp0 (Or.inl hp69) (Or.inr (by omega)), ns _ _ hp36 hp0 (Or.inl hp69) (Or.inr (by omega)), nt 103 _ (zm _ _ (by decide)) (Or.inl (by decide)) (Or.inr (by omega)), nt 103 _ (zm _ _ (by decide)) (Or.inl (by decide)) (Or.inr (by omega)), nt 103 _ (zm _ _ (by decide)) (Or.inl (by decide)) (Or.inr (by omega))]
    exact d1
  · rw [w'.1 69 2 (by omega)]; simp only [lk]; rw [if_neg (by omega), if_neg (by omega), if_pos (by first | omega | simp)]
  · rw [m'.1 101 31 (by unfold Zm; omega)]; simp only [lk]; rw [if_neg (by omega), if_neg (by omega), if_pos (by first | omega | simp)]
end ONCES3
