/-! A buyer told, by both -/
theorem sI_o (s : HS) {o o' : Nat} (k : Nat) (x : Int32) (j : Nat) (h : o' ≠ o) : (sI s o k x).1 o' j = s.1 o' j := by rw [sI_n _ _ _ h]
section LBUYER
variable {p L c h n : Nat} {s t : HS}
theorem dd_coach (hp : okX4 p = true) (hc : c ≤ 6) (D : Dd s) (e : s.1 p 9 = I c) (w : Int64) (K : Int32 → HS → Option HS) : (bnd (f_X4_coachOf p w s) fun y14 => bnd2 (f_X8_takeKnown y14 s) fun y15 s16 => K y15 s16) = K 0 s := by
  obtain ⟨v, hv⟩ := cls_coach1 hp hc e w
  rw [hv, bnd_t, D.known, bnd2_t]
theorem dd_wants (hp : okX4 p = true) (hh : h ≤ 5) (D : Dd s) (e : s.1 p 12 = I h) {o3 : Nat} (ho : o3 ≠ 36) (hop : p ≠ o3) : f_X5_readWants p o3 s = some (sI (sI s o3 6 0) o3 7 0) := by
  have D2 : Dd (sI (sI s o3 6 0) o3 7 0) := (D.sI ho).sI ho
  have e2 : (sI (sI s o3 6 0) o3 7 0).1 p 12 = I h := by rw [sI_o _ _ _ _ hop, sI_o _ _ _ _ hop]; exact e
  obtain ⟨v, hv⟩ := cls_thing1 hp hh e2 ((sI (sI s o3 6 0) o3 7 0).2.1 36 5)
  unfold f_X5_readWants
  rw [ltb_t, ltb_t]
  generalize sI (sI s o3 6 0) o3 7 0 = u at *
  show f_X5_readWants_l12b p o3 0 (f_X5_readWants_l12 p o3 4999) u = some u
  unfold f_X5_readWants_l12b f_X5_readWants_j32 f_X5_readWants_j165
  rw [if_neg (by decide), if_pos (by decide), hv, bnd_t, D2.name, bnd_t, if_pos (Eq.refl _), D2.fail, bnd_t, ltb_t]
  have := w_dead (p := p) (o3 := o3) D2 (m := 0) (by omega) 4998 0
  exact this
theorem Wc.wants {W : List (Nat × Nat × Int32)} {V : List (Nat × Nat × Int64)} {s0 s' : HS} {o3 o5 : Nat} (ha : o3 ≠ 36 ∧ o3 ≠ 0) (hb : o5 ≠ 36 ∧ o5 ≠ 0) (cc : Wc W V s0 s) (F : FwS o3 o5 s s') : Wc ((o3, 6, s'.1 o3 6) :: (o3, 7, s'.1 o3 7) :: (o5, 0, s'.1 o5 0) :: (o5, 1, s'.1 o5 1) :: (o5, 2, s'.1 o5 2) :: W) V s0 s' := by
  refine ⟨fun o j z => ?_, fun o j z => ?_⟩
  · show s'.1 o j = if o = o3 ∧ j = 6 then s'.1 o3 6 else if o = o3 ∧ j = 7 then s'.1 o3 7 else if o = o5 ∧ j = 0 then s'.1 o5 0 else if o = o5 ∧ j = 1 then s'.1 o5 1 else if o = o5 ∧ j = 2 then s'.1 o5 2 else lk W o j (s0.1 o j)
    by_cases y1 : o = o3 ∧ j = 6
    · rw [if_pos y1, y1.1, y1.2]
    by_cases y2 : o = o3 ∧ j = 7
    · rw [if_neg y1, if_pos y2, y2.1, y2.2]
    by_cases y3 : o = o5 ∧ j = 0
    · rw [if_neg y1, if_neg y2, if_pos y3, y3.1, y3.2]
    by_cases y4 : o = o5 ∧ j = 1
    · rw [if_neg y1, if_neg y2, if_neg y3, if_pos y4, y4.1, y4.2]
    by_cases y5 : o = o5 ∧ j = 2
    · rw [if_neg y1, if_neg y2, if_neg y3, if_neg y4, if_pos y5, y5.1, y5.2]
    rw [if_neg y1, if_neg y2, if_neg y3, if_neg y4, if_neg y5, F.1 o j (by omega) (by omega) (by omega) (by omega), cc.1 o j z]
  · rw [F.2 o j (by omega) (by omega), cc.2 o j z]
theorem Wm.wants {W : List (Nat × Nat × Int32)} {V : List (Nat × Nat × Int64)} {t0 t' : HS} {x : Nat} (m : Wm W V t0 t) (G : FwT x t t') : Wm ((118, x, t'.1 118 x) :: (117, 3 * x, t'.1 117 (3 * x)) :: (117, 3 * x + 1, t'.1 117 (3 * x + 1)) :: (117, 3 * x + 2, t'.1 117 (3 * x + 2)) :: W) V t0 t' := by
  refine ⟨fun o j z => ?_, fun o j z => ?_⟩
  · show t'.1 o j = if o = 118 ∧ j = x then t'.1 118 x else if o = 117 ∧ j = 3 * x then t'.1 117 (3 * x) else if o = 117 ∧ j = 3 * x + 1 then t'.1 117 (3 * x + 1) else if o = 117 ∧ j = 3 * x + 2 then t'.1 117 (3 * x + 2) else lk W o j (t0.1 o j)
    by_cases y1 : o = 118 ∧ j = x
    · rw [if_pos y1, y1.1, y1.2]
    by_cases y2 : o = 117 ∧ j = 3 * x
    · rw [if_neg y1, if_pos y2, y2.1, y2.2]
    by_cases y3 : o = 117 ∧ j = 3 * x + 1
    · rw [if_neg y1, if_neg y2, if_pos y3, y3.1, y3.2]
    by_cases y4 : o = 117 ∧ j = 3 * x + 2
    · rw [if_neg y1, if_neg y2, if_neg y3, if_pos y4, y4.1, y4.2]
    rw [if_neg y1, if_neg y2, if_neg y3, if_neg y4, G.1 o j z (by omega) (by omega), m.1 o j z]
  · rw [G.2 o j z, m.2 o j z]
theorem l_buyer (hp : okX4 p = true) {B P : Nat} (T : TK L B P s t) (hb : B < P) (D : DR p c h n s t) : Res L B t (fun s' t' => DR p c h (n + 1) s' t' ∧ ONS p s t s' t' ∧ FR0 t t') (bnd (f_X5_readBuyer p s) fun s33 => f_X5_readLine_j161 s33) (f_X12_readsBuyer t) := by
  obtain ⟨d1, d2, d3⟩ := id D
  obtain ⟨⟨hc, hh, hn⟩, ⟨p9, -⟩, ⟨p12, -⟩, ⟨c1, c2⟩⟩ := id d1
  have c2 : t.1 103 12 = I n := c2
  have q := p36 hp
  have e2 : (6 : Int32) + I n = I (6 + n) := by rw [show (6 : Int32) = I 6 from litI 6, I_add]
  unfold f_X5_readBuyer f_X12_readsBuyer f_X5_readLine_j161
  rw [c1, c2, e2, ltb_t (a := I (6 + n))]
  by_cases z : n < 6
  · obtain ⟨o3, ho3⟩ : ∃ o3, o3 = p + (14 + 2 * n) := ⟨_, rfl⟩
    obtain ⟨o5, ho5⟩ : ∃ o5, o5 = p + (15 + 2 * n) := ⟨_, rfl⟩
    have eo3 : Rf (Rf p 15) n = o3 := by rw [ho3]; exact bS_e hp z
    have ho : o3 ≠ 36 := by rw [ho3]; exact (q (14 + 2 * n) (by omega)).1
    have ho2 : o3 ≠ 37 := by rw [ho3]; exact (q (14 + 2 * n) (by omega)).2.1
    have ho0 : o3 ≠ 0 := by rw [ho3]; exact (q (14 + 2 * n) (by omega)).2.2.1
    have h56 : o5 ≠ 36 := by rw [ho5]; exact (q (15 + 2 * n) (by omega)).1
    have h50 : o5 ≠ 0 := by rw [ho5]; exact (q (15 + 2 * n) (by omega)).2.2.1
    have hp36 : p ≠ 36 := (q 0 (by omega)).1
    have hp37 : p ≠ 37 := (q 0 (by omega)).2.1
    have hp0 : p ≠ 0 := (q 0 (by omega)).2.2.1
    have hop : p ≠ o3 := by omega
    have i12 : inb (I (6 + n)) 12 = true := inb_t (by omega) (by omega)
    have k12 : (I (6 + n)).toNatClampNeg = 6 + n := I_nat (by omega)
    rw [if_pos (by rw [show (6 : Int32) = I 6 from litI 6, I_lt (by omega) (by omega)]; exact z), if_neg (by rw [show (12 : Int32) = I 12 from litI 12, I_inj (by omega) (by omega)]; omega), inb_t z (by omega), gd_t, I_nat (by omega), eo3]
    simp only [bnd_as, bnd_as2, ltb_t, bnd_t]
    refine f_step T Wr.nil Wr.nil (fun B1 P1 s1 t1 T1 hb1 w1 m1 f1 _ => ?_)
    obtain ⟨y1, y2, y3⟩ := D.same hp w1 m1
    have cp : ∀ {W V s'}, Wc W V s s' → (∀ d, lk W p 9 d = d) → (∀ d, lk W p 12 d = d) → s'.1 p 9 = I c ∧ s'.1 p 12 = I h := fun w e1 e2 => ⟨by rw [w.1 p 9 (by omega), e1]; exact p9, by rw [w.1 p 12 (by omega), e2]; exact p12⟩
    have lp : ∀ {s1 s' : HS}, (s1.1 p 9 = I c ∧ s1.1 p 12 = I h) → Fr LF1 s1 s' → s'.1 p 9 = I c ∧ s'.1 p 12 = I h := fun e f => ⟨by rw [LF1_o f hp36 hp0]; exact e.1, by rw [LF1_o f hp36 hp0]; exact e.2⟩
    have ip : ∀ {s1 : HS} {k : Nat} {x : Int32}, (s1.1 p 9 = I c ∧ s1.1 p 12 = I h) → (sI s1 o3 k x).1 p 9 = I c ∧ (sI s1 o3 k x).1 p 12 = I h := fun e => ⟨by rw [sI_o _ _ _ _ hop]; exact e.1, by rw [sI_o _ _ _ _ hop]; exact e.2⟩
    have u1 := cp w1 (fun _ => rfl) (fun _ => rfl)
    refine f_new hp T1 y1 y3 w1 m1 free_nil (Q := fun s => s.1 p 9 = I c ∧ s.1 p 12 = I h) (fun k => DK.go fun s D hQ => ?_) (fun s' f => lp u1 f) (fun k w hk hw => ?_)
    · simp (maxDischargeDepth := 30) only [Dd.take, Dd.num, Dd.takeSign, Dd.one, Dd.sI, Dd.sL, D, ho, hp36, hop, dd_coach hp hc, dd_wants hp hh, sI_o, sL_1, hQ.1, hQ.2, gd_t, bnd_t, bnd2_t, ne_eq, not_false_eq_true, Nat.reduceLT]
      exact ⟨_, rfl, by simp (maxDischargeDepth := 30) only [Dd.sI, Dd.sL, D, ho, hp36, ne_eq, not_false_eq_true], by simp (maxDischargeDepth := 30) only [sI_36, sL_36, ho, hp36, ne_eq, not_false_eq_true]⟩
    refine f_step T1 w1 m1 (fun B2 P2 s2 t2 T2 hb2 w2 m2 _ _ => ?_)
    have u2 := cp w2 (fun _ => rfl) (fun _ => rfl)
    have T3 : TK L B2 P2 (sL s2 o3 0 k) t2 := T2.cL ho
    have w3 := w2.wL (o := o3) (k := 0) (x := k)
    have u3 : (sL s2 o3 0 k).1 p 9 = I c ∧ (sL s2 o3 0 k).1 p 12 = I h := u2
    have one : ∀ i : Nat, i < 3 → Res L B t (fun s' t' => DR p c h (n + 1) s' t' ∧ ONS p s t s' t' ∧ FR0 t t') (bnd (f_X8_step (sL s2 o3 0 k)) fun s10 => bnd (f_X8_take 1002 (sI s10 o3 1 (I i))) fun y => bnd (f_X4_coachOf p (y.2.1 36 5) y) fun y14 => bnd2 (f_X8_takeKnown y14 y) fun a b => bnd (f_X8_take 1010 (sI b o3 2 a)) fun y => bnd2 (f_X8_takeNumber 0 10 y) fun a b => bnd (f_X8_take 1011 (sI b o3 3 a)) fun y => bnd2 (f_X8_takeNumber 0 99 y) fun a b => bnd (f_X8_take 1012 (sI b o3 4 a)) fun y => bnd (f_X5_readWants p o3 y) fun y => bnd (f_X8_takeSign 59 (sI y p 14 (y.1 p 14 + 1))) fun s32 => some s32) (f_X12_readsBuyer_j93 (I (6 + n)) (t1.2.1 101 7) (I i) (I (6 + n)) t2) := by
      intro i hi
      unfold f_X12_readsBuyer_j93
      simp only [i12, k12, gd_t, ltb_t, sI_k]
      rw [if_pos (by rw [I0, I_le (by omega) (by omega)]; omega)]
      have T4 : TK L B2 P2 (sL s2 o3 0 k) (sI t2 113 (6 + n) (I i)) := T3.mI ⟨Or.inl (by decide), by decide⟩
      have m4 : Wm [(113, 6 + n, I i)] [] t (sI t2 113 (6 + n) (I i)) := m2.wI
      have fr4 := free_I free_nil (o := 113) (k := 6 + n) (x := I i) (by unfold R0; omega)
      refine f_step T4 w3 m4 (fun B5 P5 s5 t5 T5 hb5 w5 m5 _ _ => ?_)
      have u5 := cp w5 (fun _ => rfl) (fun _ => rfl)
      refine f_word (T5.cI ⟨ho, ho2⟩) w5.wI m5 fr4 (j := 2) (by omega) rfl (by decide +kernel) (Q := fun s => s.1 p 9 = I c ∧ s.1 p 12 = I h) (DK.go fun s D hQ => ?_) (fun s' f => lp (ip u5) f) (fun B6 P6 s6 t6 T6 hb6 w6 m6 f6 => ?_)
      · simp (maxDischargeDepth := 30) only [Dd.take, Dd.num, Dd.takeSign, Dd.one, Dd.sI, Dd.sL, D, ho, hp36, hop, dd_coach hp hc, dd_wants hp hh, sI_o, sL_1, hQ.1, hQ.2, gd_t, bnd_t, bnd2_t, ne_eq, not_false_eq_true, Nat.reduceLT]
        exact ⟨_, rfl, by simp (maxDischargeDepth := 30) only [Dd.sI, Dd.sL, D, ho, hp36, ne_eq, not_false_eq_true], by simp (maxDischargeDepth := 30) only [sI_36, sL_36, ho, hp36, ne_eq, not_false_eq_true]⟩
      have u6 := lp (ip u5) f6
      have l1 := T1.le
      have l3 := T3.le
      have l5 := T5.le
      have l6 := T6.le
      have t6n : Wm [(113, 6 + n, I i)] [] t t6 := m6
      have t610 : t6.1 103 10 = I c := by
        rw [m6.1 103 10 (by unfold Zm; omega)]
        simp only [lk]
        rw [if_neg (by omega)]
        exact d1.2.1.2
      have n6 : ∀ j, j < c → NMk (s6.2.1 (Rf p 10) j) (t6.2.1 104 (6 + j)) := fun j hj => by
        have := d3.1 j hj
        have q5 := q 5 (by omega)
        rw [cS_e hp] at this ⊢
        rw [w6.2 (p + 5) j (by omega), m6.2 104 _ (by unfold Zm; omega)]
        simp only [lkL]
        rw [if_neg (by omega)]
        exact this
      -- the coach
      obtain ⟨vk, hvk⟩ := cls_coach1 hp hc u6.1 (s6.2.1 36 5)
      rw [hvk, bnd_t]
      rcases T6.name with ⟨e1, e2, e3, e4⟩ | ⟨e1, e2⟩
      · obtain ⟨v, a1, a2, a3⟩ := r_coach hp hc u6.1 t610 n6 e4 rfl
        have hv : vk = v := by rw [a1] at hvk; exact (Option.some.inj hvk).symm
        subst hv
        rw [if_pos e2, a2, bnd_t]
        have m7 : Wm [(114, 6 + n, vk), (113, 6 + n, I i)] [] t (sI t6 114 (6 + n) vk) := Wr.wI m6
        have fr7 := free_I fr4 (o := 114) (k := 6 + n) (x := vk) (by unfold R0; omega)
        have T7 : TK L B6 P6 s6 (sI t6 114 (6 + n) vk) := T6.mI ⟨Or.inl (by decide), by decide⟩
        unfold f_X8_takeKnown
        rw [e1, bnd_t, if_neg (by decide)]
        rcases a3 with rfl | ⟨ic, hic, rfl⟩
        · rw [if_neg (by decide), if_neg (by decide), bnd2_bs]
          refine f_fail T7 m7 fr7 (by decide) (Q := fun s => s.1 p 9 = I c ∧ s.1 p 12 = I h) (DK.go fun s D hQ => ?_) (fun s' f => lp u6 f)
          simp (maxDischargeDepth := 30) only [Dd.take, Dd.num, Dd.takeSign, Dd.one, Dd.sI, Dd.sL, D, ho, hp36, hop, dd_coach hp hc, dd_wants hp hh, sI_o, sL_1, hQ.1, hQ.2, gd_t, bnd_t, bnd2_t, ne_eq, not_false_eq_true, Nat.reduceLT]
          exact ⟨_, rfl, by simp (maxDischargeDepth := 30) only [Dd.sI, Dd.sL, D, ho, hp36, ne_eq, not_false_eq_true], by simp (maxDischargeDepth := 30) only [sI_36, sL_36, ho, hp36, ne_eq, not_false_eq_true]⟩
        rw [if_pos (by rw [I0, I_le (by omega) (by omega)]; omega), if_pos (by rw [I0, I_le (by omega) (by omega)]; omega), bnd2_bs]
        refine f_step T7 w6 m7 (fun B8 P8 s8 t8 T8 hb8 w8 m8 _ _ => ?_)
        have u8 := cp w8 (fun d => by simp only [lk]; rw [if_neg (by omega)]) (fun d => by simp only [lk]; rw [if_neg (by omega)])
        refine f_both (T8.cI ⟨ho, ho2⟩) w8.wI m8 fr7 (j := 10) (by omega) rfl (by decide +kernel) (Q := fun s => s.1 p 9 = I c ∧ s.1 p 12 = I h) (DK.go fun s D hQ => ?_) (fun s' f => lp (ip u8) f) (fun B9 P9 s9 t9 v9 T9 hb9 hv9 w9 m9 f9 => ?_)
        · simp (maxDischargeDepth := 30) only [Dd.take, Dd.num, Dd.takeSign, Dd.one, Dd.sI, Dd.sL, D, ho, hp36, hop, dd_coach hp hc, dd_wants hp hh, sI_o, sL_1, hQ.1, hQ.2, gd_t, bnd_t, bnd2_t, ne_eq, not_false_eq_true, Nat.reduceLT]
          exact ⟨_, rfl, by simp (maxDischargeDepth := 30) only [Dd.sI, Dd.sL, D, ho, hp36, ne_eq, not_false_eq_true], by simp (maxDischargeDepth := 30) only [sI_36, sL_36, ho, hp36, ne_eq, not_false_eq_true]⟩
        have u9 := lp (ip u8) f9
        rw [hv9.1]
        have fr9 := free_I fr7 (o := 115) (k := 6 + n) (x := v9) (by unfold R0; omega)
        refine f_both ((T9.cI ⟨ho, ho2⟩).mI (o := 115) ⟨Or.inl (by decide), by decide⟩) w9.wI (Wr.wI m9) fr9 (j := 11) (by omega) rfl (by decide +kernel) (Q := fun s => s.1 p 9 = I c ∧ s.1 p 12 = I h) (DK.go fun s D hQ => ?_) (fun s' f => lp (ip u9) f) (fun B10 P10 s10 t10 v10 T10 hb10 hv10 w10 m10 f10 => ?_)
        · simp (maxDischargeDepth := 30) only [Dd.take, Dd.num, Dd.takeSign, Dd.one, Dd.sI, Dd.sL, D, ho, hp36, hop, dd_coach hp hc, dd_wants hp hh, sI_o, sL_1, hQ.1, hQ.2, gd_t, bnd_t, bnd2_t, ne_eq, not_false_eq_true, Nat.reduceLT]
          exact ⟨_, rfl, by simp (maxDischargeDepth := 30) only [Dd.sI, Dd.sL, D, ho, hp36, ne_eq, not_false_eq_true], by simp (maxDischargeDepth := 30) only [sI_36, sL_36, ho, hp36, ne_eq, not_false_eq_true]⟩
        have u10 := lp (ip u9) f10
        rw [hv10.1]
        have fr10 := free_I fr9 (o := 116) (k := 6 + n) (x := v10) (by unfold R0; omega)
        refine f_word ((T10.cI ⟨ho, ho2⟩).mI (o := 116) ⟨Or.inl (by decide), by decide⟩) w10.wI (Wr.wI m10) fr10 (j := 12) (by omega) rfl (by decide +kernel) (Q := fun s => s.1 p 9 = I c ∧ s.1 p 12 = I h) (DK.go fun s D hQ => ?_) (fun s' f => lp (ip u10) f) (fun B11 P11 s11 t11 T11 hb11 w11 m11 f11 => ?_)
        · simp (maxDischargeDepth := 30) only [Dd.take, Dd.num, Dd.takeSign, Dd.one, Dd.sI, Dd.sL, D, ho, hp36, hop, dd_coach hp hc, dd_wants hp hh, sI_o, sL_1, hQ.1, hQ.2, gd_t, bnd_t, bnd2_t, ne_eq, not_false_eq_true, Nat.reduceLT]
          exact ⟨_, rfl, by simp (maxDischargeDepth := 30) only [Dd.sI, Dd.sL, D, ho, hp36, ne_eq, not_false_eq_true], by simp (maxDischargeDepth := 30) only [sI_36, sL_36, ho, hp36, ne_eq, not_false_eq_true]⟩
        have u11 := lp (ip u10) f11
        have l8 := T8.le
        have l9 := T9.le
        have l10 := T10.le
        have l11 := T11.le
        have t1111 : t11.1 103 11 = I h := by
          rw [m11.1 103 11 (by unfold Zm; omega)]
          simp only [lk]
          rw [if_neg (by omega), if_neg (by omega), if_neg (by omega), if_neg (by omega)]
          exact d1.2.2.1.2
        have n11 : ∀ j, j < h → NMk (s11.2.1 (tS p j) 0) (t11.2.1 105 (5 + j)) := fun j hj => by
          have := d3.2.1 j hj
          have q9 := q (9 + j) (by omega)
          rw [tS_e hp (by omega)] at this ⊢
          rw [w11.2 _ 0 (by omega), m11.2 105 _ (by unfold Zm; omega)]
          simp only [lkL]
          rw [if_neg (by omega)]
          exact this
        have PW := p_wants (n := n) hp z hh u11.2 t1111 n11 T11
        rw [← ho3, ← ho5] at PW
        obtain ⟨sw, r1, r2⟩ := PW
        rw [r1, bnd_t]
        have fr11 : free ((116, 6 + n, v10) :: (115, 6 + n, v9) :: (114, 6 + n, I ic) :: [(113, 6 + n, I i)]) [] := fr10
        rcases r2 with ⟨B12, P12, tw, mc, b1, T12, b3, b4, b5, b6, b7, b8⟩ | ⟨B12, P12, tw, tw2, b1, b2, T12, b4, b5, b6⟩ | ⟨tw, b1, b2, b3⟩
        · -- well told
          rw [b1, bnd2_t, if_neg (by decide)]
          have w12 := Wc.wants ⟨ho, ho0⟩ ⟨h56, h50⟩ w11 b6
          have m12 := Wm.wants m11 b7
          have x14 : sw.1 p 14 = I n := by
            rw [w12.1 p 14 (by omega)]
            simp only [lk]
            rw [if_neg (by omega), if_neg (by omega), if_neg (by omega), if_neg (by omega), if_neg (by omega), if_neg (by omega), if_neg (by omega), if_neg (by omega), if_neg (by omega)]
            exact c1
          have x12 : (sL tw 106 (6 + n) (t1.2.1 101 7)).1 103 12 = I n := by
            show tw.1 103 12 = I n
            rw [m12.1 103 12 (by unfold Zm; omega)]
            simp only [lk]
            rw [if_neg (by omega), if_neg (by omega), if_neg (by omega), if_neg (by omega), if_neg (by omega), if_neg (by omega), if_neg (by omega), if_neg (by omega)]
            exact c2
          rw [x14, x12, I_p1]
          have fin : free ((103, 12, I (n + 1)) :: (118, 6 + n, tw.1 118 (6 + n)) :: (117, 3 * (6 + n), tw.1 117 (3 * (6 + n))) :: (117, 3 * (6 + n) + 1, tw.1 117 (3 * (6 + n) + 1)) :: (117, 3 * (6 + n) + 2, tw.1 117 (3 * (6 + n) + 2)) :: (116, 6 + n, v10) :: (115, 6 + n, v9) :: (114, 6 + n, I ic) :: [(113, 6 + n, I i)]) [(106, 6 + n, t1.2.1 101 7)] := free_I (free_L (free_I (free_I (free_I (free_I fr11 (by unfold R0; omega)) (by unfold R0; omega)) (by unfold R0; omega)) (by unfold R0; omega)) (by unfold R0; omega)) (by unfold R0; omega)
          refine f_close (((T12.cI ⟨hp36, hp37⟩).mL (o := 106) (by decide)).mI (o := 103) ⟨Or.inl (by decide), by decide⟩) w12.wI (Wr.wI (Wr.wL m12)) fin (by omega) (fun B' P' s' t' T' w' m' => ?_)
          have vw : ∀ j, s'.1 o5 j = sw.1 o5 j ∧ (1 ≤ j → j ≤ 7 → s'.1 o3 j = sw.1 o3 j) := fun j => by
            have e3 : ¬ (o3 = 36 ∨ o3 = 0) := by omega
            have e5 : ¬ (o5 = 36 ∨ o5 = 0) := by omega
            refine ⟨?_, fun _ _ => ?_⟩
            · rw [w'.1 o5 j e5, w12.1 o5 j e5]
              simp only [lk]
              rw [if_neg (by omega)]
            · rw [w'.1 o3 j e3, w12.1 o3 j e3]
              simp only [lk]
              rw [if_neg (by omega)]
          have vt : ∀ o j, o ≠ 103 → ¬ Zm o j → t'.1 o j = tw.1 o j := fun o j h1 h2 => by
            rw [m'.1 o j h2, m12.1 o j h2]
            simp only [lk]
            rw [if_neg (by omega)]
          have sw3 : ∀ j v, lk ((o3, 4, v10) :: (o3, 3, v9) :: (o3, 2, I ic) :: [(o3, 1, I i)]) o3 j (s.1 o3 j) = v → (j ≠ 6 ∧ j ≠ 7) → sw.1 o3 j = v := fun j v e hj => by
            rw [b6.1 o3 j ho ho0 (Or.inr hj) (by omega), w11.1 o3 j (by omega)]; exact e
          have tw3 : ∀ o v, 113 ≤ o → o ≤ 116 → lk ((116, 6 + n, v10) :: (115, 6 + n, v9) :: (114, 6 + n, I ic) :: [(113, 6 + n, I i)]) o (6 + n) (t.1 o (6 + n)) = v → tw.1 o (6 + n) = v := fun o v h1 h2 e => by
            rw [b7.1 o _ (by unfold Zm; omega) (by omega) (by omega), m11.1 o _ (by unfold Zm; omega)]; exact e
          have ns : ∀ o j, o ≠ 36 → o ≠ 0 → o ≠ o3 → o ≠ o5 → (o ≠ p ∨ j ≠ 14) → s'.1 o j = s.1 o j := fun o j z1 z2 z3 z4 z5 => by
            rw [w'.1 o j (by omega)]
            simp only [lk]
            rw [if_neg (by omega), if_neg (by omega), if_neg (by omega), if_neg (by omega), if_neg (by omega), if_neg (by omega), if_neg (by omega), if_neg (by omega), if_neg (by omega), if_neg (by omega)]
          have nsL : ∀ o j, o ≠ 36 → o ≠ 0 → o ≠ o3 → s'.2.1 o j = s.2.1 o j := fun o j z1 z2 z3 => by
            rw [w'.2 o j (by omega)]
            simp only [lkL]
            rw [if_neg (by omega)]
          have nt : ∀ o j, ¬ Zm o j → (o ≠ 103 ∨ j ≠ 12) → (o < 113 ∨ (116 < o ∧ o ≠ 118 ∧ o ≠ 117) ∨ (o ≠ 117 ∧ j ≠ 6 + n) ∨ (o = 117 ∧ (j < 3 * (6 + n) ∨ 3 * (6 + n) + 3 ≤ j))) → t'.1 o j = t.1 o j := fun o j z1 z2 z3 => by
            rw [m'.1 o j z1]
            simp only [lk]
            rw [if_neg (by omega), if_neg (by omega), if_neg (by omega), if_neg (by omega), if_neg (by omega), if_neg (by omega), if_neg (by omega), if_neg (by omega), if_neg (by omega)]
          have ntL : ∀ o j, ¬ Zm o j → (o ≠ 106 ∨ j ≠ 6 + n) → t'.2.1 o j = t.2.1 o j := fun o j z1 z2 => by
            rw [m'.2 o j z1]
            simp only [lkL]
            rw [if_neg (by omega)]
          have zm : ∀ o j, o ≠ 101 → ¬ Zm o j := fun o j z1 z2 => z1 z2.1
          have q14 : ∀ j, j < 26 → p + j ≠ 36 ∧ p + j ≠ 0 := fun j hj => ⟨(q j hj).1, (q j hj).2.2.1⟩
          have i0 : (0 : Int32).toInt = 0 := by decide
          have i10 : (10 : Int32).toInt = 10 := by decide
          have i99 : (99 : Int32).toInt = 99 := by decide
          have X : PLx p 1 c h n s' t' := d2.cg hp ⟨hc, hh, hn⟩ (fun k hk => ns p k hp36 (by omega) (by omega) (by omega) (Or.inr (by omega))) (fun k _ => ns (p + 1) k (q14 1 (by omega)).1 (q14 1 (by omega)).2 (by omega) (by omega) (Or.inl (by omega))) (fun i hi => ns (p + 6) i (q14 6 (by omega)).1 (q14 6 (by omega)).2 (by omega) (by omega) (Or.inl (by omega))) (fun i hi k => ns _ _ (q14 (9 + i) (by omega)).1 (q14 (9 + i) (by omega)).2 (by omega) (by omega) (Or.inl (by omega))) (fun i hi k => ⟨ns _ _ (q14 (14 + 2 * i) (by omega)).1 (q14 (14 + 2 * i) (by omega)).2 (by omega) (by omega) (Or.inl (by omega)), ns _ _ (q14 (15 + 2 * i) (by omega)).1 (q14 (15 + 2 * i) (by omega)).2 (by omega) (by omega) (Or.inl (by omega))⟩) (fun k _ _ => nt _ _ (zm _ _ (by decide)) (Or.inr (by omega)) (Or.inl (by decide))) (fun i _ => nt _ _ (zm _ _ (by decide)) (Or.inl (by decide)) (Or.inl (by decide))) (fun i hi o h1 h2 => nt _ _ (zm _ _ (by omega)) (Or.inl (by omega)) (Or.inl (by omega))) (fun i hi o ho => nt _ _ (zm _ _ (by omega)) (Or.inl (by omega)) (Or.inr (Or.inr (Or.inl (by omega))))) (fun i hi k _ => nt _ _ (zm _ _ (by decide)) (Or.inl (by decide)) (Or.inr (Or.inr (Or.inr (by omega))))) (fun k _ => nt _ _ (zm _ _ (by decide)) (Or.inl (by decide)) (Or.inr (Or.inl (by decide))))
          have Y : NMS p 1 c h n s' t' := d3.cg hp ⟨hc, hh, hn⟩ (fun i hi => nsL _ _ (q14 5 (by omega)).1 (q14 5 (by omega)).2 (by omega)) (fun i hi => nsL _ _ (q14 (9 + i) (by omega)).1 (q14 (9 + i) (by omega)).2 (by omega)) (fun i hi => nsL _ _ (q14 (14 + 2 * i) (by omega)).1 (q14 (14 + 2 * i) (by omega)).2 (by omega)) (fun i _ => ntL _ _ (zm _ _ (by decide)) (Or.inl (by decide))) (fun i hi => ntL _ _ (zm _ _ (by decide)) (Or.inl (by decide))) (fun i _ => ntL _ _ (zm _ _ (by decide)) (Or.inr (by omega)))
          refine ⟨⟨?_, ?_, ?_⟩, ?_, Wm.r0 m' fin⟩
          · obtain ⟨-, g1, g2, g3⟩ := d1
            refine ⟨⟨hc, hh, by omega⟩, ⟨?_, ?_⟩, ⟨?_, ?_⟩, ⟨?_, ?_⟩⟩
            · rw [ns _ _ hp36 (by omega) (by omega) (by omega) (Or.inr (by omega))]; exact g1.1
            · rw [nt _ _ (zm _ _ (by decide)) (Or.inr (by omega)) (Or.inl (by decide))]; exact g1.2
            · rw [ns _ _ hp36 (by omega) (by omega) (by omega) (Or.inr (by omega))]; exact g2.1
            · rw [nt _ _ (zm _ _ (by decide)) (Or.inr (by omega)) (Or.inl (by decide))]; exact g2.2
            · rw [w'.1 p 14 (by omega)]; simp only [lk]; rw [if_pos (by first | omega | simp)]
            · rw [m'.1 103 _ (zm _ _ (by decide))]; simp only [lk]; rw [if_pos (by first | omega | simp)]
          · refine ⟨X.1, X.2.1, X.2.2.1, fun j hj => ?_, X.2.2.2.2⟩
            by_cases y : j < n
            · exact X.2.2.2.1 j y
            · have y : j = n := by omega
              subst y
              unfold PLb
              rw [wS_e hp z, bS_e hp z, ← ho3, ← ho5]
              obtain ⟨v1, v2, v3, v4, v5⟩ := b5
              refine ⟨⟨?_, ?_⟩, ⟨?_, ?_⟩, ⟨?_, ?_⟩, ⟨?_, ?_⟩, mc, b4.1, b4.2, ?_, ?_, fun k hk => ?_, fun k hk k' hk' e => ?_, ?_⟩
              · rw [(vw 1).2 (by omega) (by omega), sw3 1 (I i) (by simp only [lk]; rw [if_neg (by omega), if_neg (by omega), if_neg (by omega), if_pos (by first | omega | simp)]) (by omega), vt 113 _ (by decide) (zm _ _ (by decide))]
                exact (tw3 113 (I i) (by omega) (by omega) (by simp only [lk]; rw [if_neg (by omega), if_neg (by omega), if_neg (by omega), if_pos (by first | omega | simp)])).symm
              · rw [vt 113 _ (by decide) (zm _ _ (by decide)), show 6 * 1 + j = 6 + j from by omega, tw3 113 (I i) (by omega) (by omega) (by simp only [lk]; rw [if_neg (by omega), if_neg (by omega), if_neg (by omega), if_pos (by first | omega | simp)]), I_toInt (by omega)]; omega
              · rw [(vw 2).2 (by omega) (by omega), sw3 2 (I ic) (by simp only [lk]; rw [if_neg (by omega), if_neg (by omega), if_pos (by first | omega | simp)]) (by omega), vt 114 _ (by decide) (zm _ _ (by decide))]
                exact (tw3 114 (I ic) (by omega) (by omega) (by simp only [lk]; rw [if_neg (by omega), if_neg (by omega), if_pos (by first | omega | simp)])).symm
              · rw [vt 114 _ (by decide) (zm _ _ (by decide)), show 6 * 1 + j = 6 + j from by omega, tw3 114 (I ic) (by omega) (by omega) (by simp only [lk]; rw [if_neg (by omega), if_neg (by omega), if_pos (by first | omega | simp)]), I_toInt (by omega)]; omega
              · rw [(vw 3).2 (by omega) (by omega), sw3 3 v9 (by simp only [lk]; rw [if_neg (by omega), if_pos (by first | omega | simp)]) (by omega), vt 115 _ (by decide) (zm _ _ (by decide))]
                exact (tw3 115 v9 (by omega) (by omega) (by simp only [lk]; rw [if_neg (by omega), if_pos (by first | omega | simp)])).symm
              · rw [vt 115 _ (by decide) (zm _ _ (by decide)), show 6 * 1 + j = 6 + j from by omega, tw3 115 v9 (by omega) (by omega) (by simp only [lk]; rw [if_neg (by omega), if_pos (by first | omega | simp)])]; have := hv9.2; omega
              · rw [(vw 4).2 (by omega) (by omega), sw3 4 v10 (by simp only [lk]; rw [if_pos (by first | omega | simp)]) (by omega), vt 116 _ (by decide) (zm _ _ (by decide))]
                exact (tw3 116 v10 (by omega) (by omega) (by simp only [lk]; rw [if_pos (by first | omega | simp)])).symm
              · rw [vt 116 _ (by decide) (zm _ _ (by decide)), show 6 * 1 + j = 6 + j from by omega, tw3 116 v10 (by omega) (by omega) (by simp only [lk]; rw [if_pos (by first | omega | simp)])]; have := hv10.2; omega
              · rw [(vw 6).2 (by omega) (by omega)]; exact v1
              · rw [vt 118 _ (by decide) (zm _ _ (by decide))]; exact v2
              · rw [(vw k).1, vt 117 _ (by decide) (zm _ _ (by decide))]; exact v3 k hk
              · rw [vt 117 _ (by decide) (zm _ _ (by decide)), vt 117 _ (by decide) (zm _ _ (by decide))] at e; exact v4 k hk k' hk' e
              · rw [(vw 7).2 (by omega) (by omega), v5]
                exact (wbits_cg (fun k _ => vt 117 _ (by decide) (zm _ _ (by decide)))).symm
          · refine ⟨Y.1, Y.2.1, fun j hj => ?_⟩
            by_cases y : j < n
            · exact Y.2.2 j y
            · have y : j = n := by omega
              subst y
              rw [bS_e hp z, ← ho3, w'.2 o3 0 (by omega), m'.2 106 _ (zm _ _ (by decide))]
              simp only [lkL]
              rw [if_pos (by first | omega | simp), if_pos (by first | omega | simp), hw]
              exact hk
          · exact ⟨⟨ns 69 2 (by decide) (by decide) (by have := q (14 + 2 * n) (by omega); omega) (by have := q (15 + 2 * n) (by omega); omega) (Or.inr (by decide)), fun j => ⟨ns _ _ (q14 2 (by omega)).1 (q14 2 (by omega)).2 (by omega) (by omega) (Or.inl (by omega)), ns _ _ (q14 3 (by omega)).1 (q14 3 (by omega)).2 (by omega) (by omega) (Or.inl (by omega))⟩⟩, nt _ _ (by unfold Zm; omega) (Or.inl (by decide)) (Or.inl (by decide)), nt _ _ (by unfold Zm; omega) (Or.inl (by decide)) (Or.inl (by decide)), fun j => ⟨nt _ _ (zm _ _ (by decide)) (Or.inl (by decide)) (Or.inr (Or.inl (by decide))), nt _ _ (zm _ _ (by decide)) (Or.inl (by decide)) (Or.inr (Or.inl (by decide))), nt _ _ (zm _ _ (by decide)) (Or.inl (by decide)) (Or.inr (Or.inl (by decide)))⟩⟩
        · -- no closing sign
          rw [b1, bnd2_t, if_pos (Eq.refl _)]
          obtain ⟨sx, tx, g1, g2, g3, g4, g5⟩ := (T12.cI (o := p) (k := 14) (x := sw.1 p 14 + 1) ⟨hp36, hp37⟩).fail (v := 1) (by decide)
          rw [b2] at g2
          obtain rfl : tw2 = tx := (Prod.mk.inj (Option.some.inj g2)).2
          refine Or.inr ⟨sx, tw2, ?_, rfl, g3, ((Wm.wants m11 b5).fr g5).r0 (free_I (free_I (free_I (free_I fr11 (by unfold R0; omega)) (by unfold R0; omega)) (by unfold R0; omega)) (by unfold R0; omega))⟩
          unfold f_X8_takeSign
          rw [isSign_cg (s := sw) (sI_n _ _ _ (Ne.symm hp36)), b6, if_pos (Eq.refl _), g1, bnd_t, bnd_t]
        · rw [b1, bnd2_t, if_pos (Eq.refl _)]
          have D2 : Dd (sI sw p 14 (sw.1 p 14 + 1)) := b2.1.sI hp36
          refine Or.inr ⟨_, tw, by rw [D2.takeSign, bnd_t], rfl, ⟨D2, by rw [sI_36 _ _ hp36]; exact b2.2⟩, (Wm.wants m11 b3).r0 (free_I (free_I (free_I (free_I fr11 (by unfold R0; omega)) (by unfold R0; omega)) (by unfold R0; omega)) (by unfold R0; omega))⟩
      · rw [if_neg (by rw [e2]; decide)]
        unfold f_X8_takeKnown
        rw [e1, bnd_t, if_pos (Eq.refl _), bnd2_bs]
        refine f_fail T6 m6 fr4 (by decide) (Q := fun s => s.1 p 9 = I c ∧ s.1 p 12 = I h) (DK.go fun s D hQ => ?_) (fun s' f => lp u6 f)
        simp (maxDischargeDepth := 30) only [Dd.take, Dd.num, Dd.takeSign, Dd.one, Dd.sI, Dd.sL, D, ho, hp36, hop, dd_coach hp hc, dd_wants hp hh, sI_o, sL_1, hQ.1, hQ.2, gd_t, bnd_t, bnd2_t, ne_eq, not_false_eq_true, Nat.reduceLT]
        exact ⟨_, rfl, by simp (maxDischargeDepth := 30) only [Dd.sI, Dd.sL, D, ho, hp36, ne_eq, not_false_eq_true], by simp (maxDischargeDepth := 30) only [sI_36, sL_36, ho, hp36, ne_eq, not_false_eq_true]⟩
    have ej : ∀ i, (i = 0 → f_X12_isWord 8740238 t2 = 1) → (i = 1 → f_X12_isWord 8740238 t2 = 0 ∧ f_X12_isWord 8813992 t2 = 1) → (i = 2 → f_X12_isWord 8740238 t2 = 0 ∧ f_X12_isWord 8813992 t2 = 0 ∧ f_X12_isWord 2690359 t2 = 1) → i < 3 → (if f_X12_isWord 8740238 t2 = 0 then (if f_X12_isWord 8813992 t2 = 0 then (if f_X12_isWord 2690359 t2 = 0 then f_X12_readsBuyer_j93 (I (6 + n)) (t1.2.1 101 7) (-1) (I (6 + n)) t2 else f_X12_readsBuyer_j93 (I (6 + n)) (t1.2.1 101 7) 2 (I (6 + n)) t2) else f_X12_readsBuyer_j93 (I (6 + n)) (t1.2.1 101 7) 1 (I (6 + n)) t2) else f_X12_readsBuyer_j93 (I (6 + n)) (t1.2.1 101 7) 0 (I (6 + n)) t2) = f_X12_readsBuyer_j93 (I (6 + n)) (t1.2.1 101 7) (I i) (I (6 + n)) t2 := fun i h0 h1 h2 hi => by
      rcases (show i = 0 ∨ i = 1 ∨ i = 2 from by omega) with rfl | rfl | rfl
      · rw [if_neg (by rw [h0 rfl]; decide), I_e0]
      · rw [if_pos (h1 rfl).1, if_neg (by rw [(h1 rfl).2]; decide)]; exact Eq.refl _
      · rw [if_pos (h2 rfl).1, if_pos (h2 rfl).2.1, if_neg (by rw [(h2 rfl).2.2]; decide)]; exact Eq.refl _
    have tn := T3.tone (a := 27) (b := 28) (c := 29) (by omega) (by omega) (by omega)
    rw [show w27 27 = 8740238 from by decide +kernel, show w27 28 = 8813992 from by decide +kernel, show w27 29 = 2690359 from by decide +kernel] at tn
    rcases tn with ⟨i, hi, e, h0, h1, h2⟩ | ⟨e, h0, h1, h2⟩
    · rw [ej i h0 h1 h2 hi]
      have e : f_X8_takeOneOf 1027 1028 1029 (sL s2 o3 0 k) = bnd (f_X8_step (sL s2 o3 0 k)) fun s' => some (I i, s') := e
      rw [e, bnd2_bs]
      exact one i hi
    · rw [if_pos h0, if_pos h1, if_pos h2]
      have e : f_X8_takeOneOf 1027 1028 1029 (sL s2 o3 0 k) = bnd (f_X8_fail 1 (sL s2 o3 0 k)) fun s' => some (2, s') := e
      rw [e, bnd2_bs]
      unfold f_X12_readsBuyer_j93
      simp only [i12, k12, gd_t, ltb_t, sI_k]
      rw [if_neg (by decide)]
      refine f_fail (T3.mI (o := 113) ⟨Or.inl (by decide), by decide⟩) (Wr.wI m2) (free_I free_nil (by unfold R0; omega)) (by decide) (Q := fun s => s.1 p 9 = I c ∧ s.1 p 12 = I h) (DK.go fun s D hQ => ?_) (fun s' f => lp u3 f)
      simp (maxDischargeDepth := 30) only [Dd.take, Dd.num, Dd.takeSign, Dd.one, Dd.sI, Dd.sL, D, ho, hp36, hop, dd_coach hp hc, dd_wants hp hh, sI_o, sL_1, hQ.1, hQ.2, gd_t, bnd_t, bnd2_t, ne_eq, not_false_eq_true, Nat.reduceLT]
      exact ⟨_, rfl, by simp (maxDischargeDepth := 30) only [Dd.sI, Dd.sL, D, ho, hp36, ne_eq, not_false_eq_true], by simp (maxDischargeDepth := 30) only [sI_36, sL_36, ho, hp36, ne_eq, not_false_eq_true]⟩
  · rw [if_neg (by rw [show (6 : Int32) = I 6 from litI 6, I_lt (by omega) (by omega)]; exact z), if_pos (by rw [show (12 : Int32) = I 12 from litI 12, I_inj (by omega) (by omega)]; omega)]
    simp only [bnd_as, bnd_t]
    refine f_fail T Wr.nil free_nil (by decide) (Q := fun _ => True) (DK.go fun s D _ => ?_) (fun _ _ => trivial)
    simp only [Dd.takeSign, D, bnd_t]
    exact ⟨s, rfl, D, rfl⟩
end LBUYER
