/-! A coach told, by both -/
theorem sL_1 (s : HS) {o k : Nat} {x : Int64} (o' j : Nat) : (sL s o k x).1 o' j = s.1 o' j := rfl
section LCOACH
variable {p L c h n : Nat} {s t : HS}
theorem f_both2 {B0 B P : Nat} {s0 t0 : HS} {W : List (Nat × Nat × Int32)} {V : List (Nat × Nat × Int64)} {W' : List (Nat × Nat × Int32)} {V' : List (Nat × Nat × Int64)} {G : HS → HS → Prop} (T : TK L B P s t) (cc : Wc W V s0 s) (m : Wm W' V' t0 t) (hf : free W' V') {j a : Nat} {w : Int64} (hj : j < 37) (ha : a = 1000 + j) (hw : w27 j = w) {lo hi : Int32} {hiF : HS → Int32} (hhi : ∀ s1, Fr LF1 s s1 → hiF s1 = hi) {K : HS → Int32 → HS → Option HS} {M : HS → Option (Int32 × HS)} {Q : HS → Prop} (hK : ∀ s1, Fr LF1 s s1 → DK Q (K s1 0)) (hQ : ∀ s', Fr LF1 s s' → Q s')
    (go : ∀ s1, Fr LF1 s s1 → ∀ B' P' s' t' v, TK L B' P' s' t' → P ≤ B' → (t'.1 101 44 = v ∧ lo.toInt ≤ v.toInt ∧ v.toInt ≤ hi.toInt ∧ 0 ≤ v.toInt) → Wc W V s0 s' → Wm W' V' t0 t' → Fr LF1 s s' → Res L B0 t0 G (K s1 v s') (M t')) :
    Res L B0 t0 G (bnd (f_X8_take a s) fun s1 => bnd2 (f_X8_takeNumber lo (hiF s1) s1) fun y s' => K s1 y s') (bnd2 (f_X12_needsBoth w lo hi t) fun y t' => if y = 0 then some (0, t') else M t') := by
  subst ha; subst hw
  obtain ⟨s1, a1, a2, a3⟩ := T.tboth hj lo hi
  rw [a1, bnd_t, hhi s1 a2]
  rcases a3 with ⟨B', P', s', t', v, p1, p2, p3, p4, p5, p6, p7⟩ | ⟨s', t', p1, p2, p3, p4, p5⟩
  · rw [p1, p2, bnd2_t, bnd2_t, if_neg (by decide)]
    exact go s1 a2 B' P' s' t' v p3 p4 p5 (cc.fr p6) (m.fr p7) p6
  · rw [p1, p2, bnd2_t, bnd2_t, if_pos (Eq.refl _)]
    obtain ⟨s2, k1, k2, k3⟩ := hK s1 a2 s' p3.1 (hQ s' p4)
    exact Or.inr ⟨s2, t', k1, rfl, ⟨k2, by rw [k3]; exact p3.2⟩, (m.fr p5).r0 hf⟩
theorem LF1_o {s s' : HS} (f : Fr LF1 s s') {o : Nat} (h : o ≠ 36) (h0 : o ≠ 0) (k : Nat) : s'.1 o k = s.1 o k := f.1 o k (wm_LF1 o k h o h0 rfl)
theorem l_coach (hp : okX4 p = true) {B P : Nat} (T : TK L B P s t) (hb : B < P) (D : DR p c h n s t) : Res L B t (fun s' t' => DR p (c + 1) h n s' t' ∧ ONS p s t s' t' ∧ FR0 t t') (bnd (f_X5_readCoach p s) fun s33 => f_X5_readLine_j161 s33) (f_X12_readsCoach t) := by
  obtain ⟨d1, d2, d3⟩ := id D
  obtain ⟨⟨hc, hh, hn⟩, ⟨c1, c2⟩, -⟩ := id d1
  have c2 : t.1 103 10 = I c := c2
  have q := p36 hp
  have e2 : (6 : Int32) + I c = I (6 + c) := by rw [show (6 : Int32) = I 6 from litI 6, I_add]
  unfold f_X5_readCoach f_X12_readsCoach f_X5_readLine_j161
  rw [c1, c2, e2, ltb_t (a := I (6 + c))]
  by_cases z : c < 6
  · have hp36 : p ≠ 36 := (q 0 (by omega)).1
    have hp37 : p ≠ 37 := (q 0 (by omega)).2.1
    have hp0 : p ≠ 0 := (q 0 (by omega)).2.2.1
    have h5 : p + 5 ≠ 36 := (q 5 (by omega)).1
    have h6 : p + 6 ≠ 36 := (q 6 (by omega)).1
    have h67 : p + 6 ≠ 37 := (q 6 (by omega)).2.1
    have e10 : Rf p 10 = p + 5 := cS_e hp
    have e11 : Rf p 11 = p + 6 := yS_e hp
    have i12 : inb (I (6 + c)) 12 = true := inb_t (by omega) (by omega)
    have k12 : (I (6 + c)).toNatClampNeg = 6 + c := I_nat (by omega)
    have i6 : inb (I c) 6 = true := inb_t z (by omega)
    have k6 : (I c).toNatClampNeg = c := I_nat (by omega)
    rw [if_pos (by rw [show (6 : Int32) = I 6 from litI 6, I_lt (by omega) (by omega)]; exact z), if_neg (by rw [show (12 : Int32) = I 12 from litI 12, I_inj (by omega) (by omega)]; omega)]
    simp only [bnd_as, bnd_as2, bnd_gd, ltb_t, bnd_t, e10, e11]
    refine f_step T Wr.nil Wr.nil (fun B1 P1 s1 t1 T1 hb1 w1 m1 f1 _ => ?_)
    have s19 : s1.1 p 9 = I c := by rw [f1.1 p 9 (by
      have := wm_LF1 p 9 hp36 p hp0 rfl
      exact wm_sub (show wsub LT1 LF1 = true by decide) this)]; exact c1
    rw [s19, i6, k6]
    simp only [gd_t]
    obtain ⟨y1, y2, y3⟩ := D.same hp w1 m1
    refine f_new hp T1 y1 y3 w1 m1 free_nil (Q := fun s => s.1 p 9 = I c) (fun k => DK.go fun s D hQ => ?_) (fun s' f => by rw [LF1_o f hp36 hp0]; exact s19) (fun k w hk hw => ?_)
    · simp (maxDischargeDepth := 20) only [Dd.take, Dd.num, Dd.takeSign, Dd.one, Dd.sI, Dd.sL, D, hp36, h6, sL_1, hQ, i6, k6, gd_t, bnd_t, bnd2_t, ne_eq, not_false_eq_true, Nat.reduceLT]
      exact ⟨_, rfl, by simp (maxDischargeDepth := 20) only [Dd.sI, Dd.sL, D, hp36, h6, ne_eq, not_false_eq_true], by simp (maxDischargeDepth := 20) only [sI_36, sL_36, hp36, h6, ne_eq, not_false_eq_true]⟩
    refine f_step T1 w1 m1 (fun B2 P2 s2 t2 T2 hb2 w2 m2 f2 _ => ?_)
    have s29 : s2.1 p 9 = I c := by rw [f2.1 p 9 (wm_sub (show wsub LT1 LF1 = true by decide) (wm_LF1 p 9 hp36 p hp0 rfl))]; exact s19
    simp only [i12, k12, gd_t, ltb_t]
    refine f_both2 (T2.cL h5) (w2.wL (o := p + 5)) m2 free_nil (j := 3) (by omega) rfl (by decide +kernel) (hi := 200) (hiF := fun _ => 200) (fun _ _ => rfl) (Q := fun s => s.1 p 9 = I c) (fun s3 f3 => ?_) (fun s' f => by rw [LF1_o f hp36 hp0]; exact s29) (fun s3 f3 B4 P4 s4 t4 v4 T4 hb4 hv4 w4 m4 f4 => ?_)
    · have s39 : s3.1 p 9 = I c := by rw [LF1_o f3 hp36 hp0]; exact s29
      refine DK.go fun s D hQ => ?_
      rw [s39, i6, k6]
      simp only [gd_t]
      simp (maxDischargeDepth := 20) only [Dd.take, Dd.num, Dd.takeSign, Dd.one, Dd.sI, Dd.sL, D, hp36, h6, sL_1, hQ, i6, k6, gd_t, bnd_t, bnd2_t, ne_eq, not_false_eq_true, Nat.reduceLT]
      exact ⟨_, rfl, by simp (maxDischargeDepth := 20) only [Dd.sI, Dd.sL, D, hp36, h6, ne_eq, not_false_eq_true], by simp (maxDischargeDepth := 20) only [sI_36, sL_36, hp36, h6, ne_eq, not_false_eq_true]⟩
    have s39 : s3.1 p 9 = I c := by rw [LF1_o f3 hp36 hp0]; exact s29
    have s49 : s4.1 p 9 = I c := by rw [LF1_o f4 hp36 hp0]; exact s29
    rw [hv4.1, s39, i6, k6, gd_t]
    have u1 : (sI s4 (p + 6) c v4).1 p 9 = I c := by
      have hne : p ≠ p + 6 := by omega
      rw [sI_n _ _ _ hne]; exact s49
    have u2 : (sL (sI t4 107 (6 + c) v4) 104 (6 + c) (t1.2.1 101 7)).1 103 10 = I c := by
      show (sI t4 107 (6 + c) v4).1 103 10 = I c
      rw [sI_n _ _ _ (by decide), m4.1 103 10 (by unfold Zm; omega)]
      exact c2
    rw [u1, u2, I_p1]
    have l1 := T1.le
    have l2 := T2.le
    have fin : free ((103, 10, I (c + 1)) :: [(107, 6 + c, v4)]) [(104, 6 + c, t1.2.1 101 7)] := free_I (free_L (free_I free_nil (by unfold R0; omega)) (by unfold R0; omega)) (by unfold R0; omega)
    refine f_close (((((T4.cI ⟨h6, h67⟩).cI ⟨hp36, hp37⟩).mI (o := 107) ⟨Or.inl (by decide), by decide⟩).mL (o := 104) (by decide)).mI (o := 103) ⟨Or.inl (by decide), by decide⟩) w4.wI.wI (Wr.wI (Wr.wL (Wr.wI m4))) fin (by omega) (fun B' P' s' t' T' w' m' => ?_)
    have ns : ∀ o j, o ≠ 36 → o ≠ 0 → (o ≠ p + 6 ∨ j ≠ c) → (o ≠ p ∨ j ≠ 9) → s'.1 o j = s.1 o j := fun o j z1 z2 z3 z4 => by
      rw [w'.1 o j (by omega)]
      simp only [lk]
      rw [if_neg (by omega), if_neg (by omega)]
    have nsL : ∀ o j, o ≠ 36 → o ≠ 0 → (o ≠ p + 5 ∨ j ≠ c) → s'.2.1 o j = s.2.1 o j := fun o j z1 z2 z3 => by
      rw [w'.2 o j (by omega)]
      simp only [lkL]
      rw [if_neg (by omega)]
    have nt : ∀ o j, ¬ Zm o j → (o ≠ 103 ∨ j ≠ 10) → (o ≠ 107 ∨ j ≠ 6 + c) → t'.1 o j = t.1 o j := fun o j z1 z2 z3 => by
      rw [m'.1 o j z1]
      simp only [lk]
      rw [if_neg (by omega), if_neg (by omega)]
    have ntL : ∀ o j, ¬ Zm o j → (o ≠ 104 ∨ j ≠ 6 + c) → t'.2.1 o j = t.2.1 o j := fun o j z1 z2 => by
      rw [m'.2 o j z1]
      simp only [lkL]
      rw [if_neg (by omega)]
    have zm : ∀ o j, o ≠ 101 → ¬ Zm o j := fun o j z1 z2 => z1 z2.1
    have q14 : ∀ j, j < 26 → p + j ≠ 36 ∧ p + j ≠ 0 := fun j hj => ⟨(q j hj).1, (q j hj).2.2.1⟩
    have i0 : (0 : Int32).toInt = 0 := by decide
    have i200 : (200 : Int32).toInt = 200 := by decide
    have X : PLx p 1 c h n s' t' := d2.cg hp ⟨hc, hh, hn⟩ (fun k hk => ns p k hp36 (by omega) (by omega) (Or.inr (by omega))) (fun k _ => ns (p + 1) k (q14 1 (by omega)).1 (q14 1 (by omega)).2 (by omega) (Or.inl (by omega))) (fun i hi => ns (p + 6) i (q14 6 (by omega)).1 (q14 6 (by omega)).2 (Or.inr (by omega)) (Or.inl (by omega))) (fun i hi k => ns _ _ (q14 (9 + i) (by omega)).1 (q14 (9 + i) (by omega)).2 (by omega) (Or.inl (by omega))) (fun i hi k => ⟨ns _ _ (q14 (14 + 2 * i) (by omega)).1 (q14 (14 + 2 * i) (by omega)).2 (by omega) (Or.inl (by omega)), ns _ _ (q14 (15 + 2 * i) (by omega)).1 (q14 (15 + 2 * i) (by omega)).2 (by omega) (Or.inl (by omega))⟩) (fun k _ _ => nt _ _ (zm _ _ (by decide)) (Or.inr (by omega)) (Or.inl (by decide))) (fun i _ => nt _ _ (zm _ _ (by decide)) (Or.inl (by decide)) (Or.inr (by omega))) (fun i hi o h1 h2 => nt _ _ (zm _ _ (by omega)) (Or.inl (by omega)) (Or.inl (by omega))) (fun i hi o ho => nt _ _ (zm _ _ (by omega)) (Or.inl (by omega)) (Or.inl (by omega))) (fun i hi k _ => nt _ _ (zm _ _ (by decide)) (Or.inl (by decide)) (Or.inl (by decide))) (fun k _ => nt _ _ (zm _ _ (by decide)) (Or.inl (by decide)) (Or.inl (by decide)))
    have Y : NMS p 1 c h n s' t' := d3.cg hp ⟨hc, hh, hn⟩ (fun i hi => nsL _ _ (q14 5 (by omega)).1 (q14 5 (by omega)).2 (Or.inr (by omega))) (fun i hi => nsL _ _ (q14 (9 + i) (by omega)).1 (q14 (9 + i) (by omega)).2 (by omega)) (fun i hi => nsL _ _ (q14 (14 + 2 * i) (by omega)).1 (q14 (14 + 2 * i) (by omega)).2 (by omega)) (fun i _ => ntL _ _ (zm _ _ (by decide)) (Or.inr (by omega))) (fun i hi => ntL _ _ (zm _ _ (by decide)) (Or.inl (by decide))) (fun i _ => ntL _ _ (zm _ _ (by decide)) (Or.inl (by decide)))
    refine ⟨⟨?_, ?_, ?_⟩, ?_, Wm.r0 m' fin⟩
    · obtain ⟨-, g1, g2, g3⟩ := d1
      refine ⟨⟨by omega, hh, hn⟩, ⟨?_, ?_⟩, ⟨?_, ?_⟩, ⟨?_, ?_⟩⟩
      · rw [w'.1 p 9 (by omega)]; simp only [lk]; rw [if_pos (by first | omega | simp)]
      · rw [m'.1 103 _ (zm _ _ (by decide))]; simp only [lk]; rw [if_pos (by first | omega | simp)]
      · rw [ns _ _ hp36 (by omega) (by omega) (Or.inr (by omega))]; exact g2.1
      · rw [nt _ _ (zm _ _ (by decide)) (Or.inr (by omega)) (Or.inl (by decide))]; exact g2.2
      · rw [ns _ _ hp36 (by omega) (by omega) (Or.inr (by omega))]; exact g3.1
      · rw [nt _ _ (zm _ _ (by decide)) (Or.inr (by omega)) (Or.inl (by decide))]; exact g3.2
    · refine ⟨X.1, fun j hj => ?_, X.2.2.1, fun j hj => (X.2.2.2.1 j hj).mono (by omega) (Nat.le_refl _), X.2.2.2.2⟩
      by_cases y : j < c
      · exact X.2.1 j y
      · have y : j = c := by omega
        subst y
        have a1 : s'.1 (p + 6) j = v4 := by
          rw [w'.1 (p + 6) j (by have := q14 6 (by omega); omega)]; simp only [lk]; rw [if_neg (by omega), if_pos (by first | omega | simp)]
        have a2 : t'.1 107 (6 * 1 + j) = v4 := by
          rw [m'.1 107 _ (zm _ _ (by decide))]; simp only [lk]; rw [if_neg (by omega), if_pos (by first | omega | simp)]
        rw [e11]
        refine ⟨by rw [a1, a2], ?_⟩
        rw [a2]; have := hv4.2; omega
    · refine ⟨fun j hj => ?_, Y.2.1, Y.2.2⟩
      by_cases y : j < c
      · exact Y.1 j y
      · have y : j = c := by omega
        subst y
        rw [e10, w'.2 (p + 5) j (by have := q14 5 (by omega); omega), m'.2 104 _ (zm _ _ (by decide))]
        simp only [lkL]
        rw [if_pos (by first | omega | simp), if_pos (by first | omega | simp), hw]
        exact hk
    · exact ⟨⟨ns 69 2 (by decide) (by decide) (by have := q 6 (by omega); omega) (Or.inr (by decide)), fun j => ⟨ns _ _ (q14 2 (by omega)).1 (q14 2 (by omega)).2 (by omega) (Or.inl (by omega)), ns _ _ (q14 3 (by omega)).1 (q14 3 (by omega)).2 (by omega) (Or.inl (by omega))⟩⟩, nt _ _ (by unfold Zm; omega) (Or.inl (by decide)) (Or.inl (by decide)), nt _ _ (by unfold Zm; omega) (Or.inl (by decide)) (Or.inl (by decide)), fun j => ⟨nt _ _ (zm _ _ (by decide)) (Or.inl (by decide)) (Or.inl (by decide)), nt _ _ (zm _ _ (by decide)) (Or.inl (by decide)) (Or.inl (by decide)), nt _ _ (zm _ _ (by decide)) (Or.inl (by decide)) (Or.inl (by decide))⟩⟩
  · rw [if_neg (by rw [show (6 : Int32) = I 6 from litI 6, I_lt (by omega) (by omega)]; exact z), if_pos (by rw [show (12 : Int32) = I 12 from litI 12, I_inj (by omega) (by omega)]; omega)]
    simp only [bnd_as, bnd_t]
    refine f_fail T Wr.nil free_nil (by decide) (Q := fun _ => True) (DK.go fun s D _ => ?_) (fun _ _ => trivial)
    simp only [Dd.takeSign, D, bnd_t]
    exact ⟨s, rfl, D, rfl⟩
end LCOACH
