/-! Questions that try: the trial State 28 of the class, the hand of the reference set and set back -/
def TRL (p c h n : Nat) (s t : HS) : Prop := s.2.2.1 = p ∧ PL p 0 c h n s t ∧ HR 28 h n s t ∧ OR p s t ∧ IDLE t
theorem cpy5 {a b : Nat → Int32} {k n : Nat} (hn : n < 2147483648) (hk : k < n) : va_cpy a b (0 : Int32).toNatClampNeg (0 : Int32).toNatClampNeg (I n).toNatClampNeg k = a k := by
  rw [I_nat hn, show (0 : Int32).toNatClampNeg = 0 from I_nat (n := 0) (by omega)]
  unfold va_cpy
  simp [hk]
theorem Rel.back {p d c h n : Nat} {s s' t t' : HS} {L M' K : List (Nat × Nat)} (R : Rel p d c h n s t) (f : Fr L s s') (g : Fr (M' ++ K) t t') (h1 : avR1 p L = true) (h2 : avR2 M' = true) (hk : ∀ o k, wm K o k = true → t'.1 o k = t.1 o k) (hq : wo K 104 = false ∧ wo K 105 = false ∧ wo K 106 = false) : Rel p d c h n s' t' := by
  have app : ∀ o k, wm (M' ++ K) o k = (wm M' o k || wm K o k) := fun o k => by unfold wm; rw [List.any_append]
  have g2 : Fr M' t (t'.1, fun o k => if wm K o k then t.2.1 o k else t'.2.1 o k, t.2.2) := by
    refine ⟨fun o k q => ?_, fun o k q => ?_, fun _ => rfl, fun _ => rfl, fun _ => rfl, fun _ => rfl, fun _ => rfl⟩
    · by_cases z : wm K o k = true
      · exact hk o k z
      · exact g.1 o k (by rw [app, q, Bool.eq_false_iff.mpr z]; rfl)
    · show (if wm K o k then t.2.1 o k else t'.2.1 o k) = _
      by_cases z : wm K o k = true
      · rw [if_pos z]
      · rw [if_neg z]; exact g.2.1 o k (by rw [app, q, Bool.eq_false_iff.mpr z]; rfl)
  obtain ⟨b0, b1, b2, b3, b4, b5, b6, b7, b8, b9⟩ := R.fr f g2 h1 h2
  refine ⟨b0, b1, b2, b3, ?_, b5, b6, b7, b8, b9⟩
  obtain ⟨n1, n2, n3⟩ := b4
  refine ⟨fun i hi => ?_, fun i hi => ?_, fun i hi => ?_⟩
  · have := n1 i hi
    have e : (if wm K 104 (6 * 0 + i) then t.2.1 104 (6 * 0 + i) else t'.2.1 104 (6 * 0 + i)) = t'.2.1 104 (6 * 0 + i) := if_neg (by rw [wo_m hq.1]; decide)
    rw [← e]; exact this
  · have := n2 i hi
    have e : (if wm K 105 (5 * 0 + i) then t.2.1 105 (5 * 0 + i) else t'.2.1 105 (5 * 0 + i)) = t'.2.1 105 (5 * 0 + i) := if_neg (by rw [wo_m hq.2.1]; decide)
    rw [← e]; exact this
  · have := n3 i hi
    have e : (if wm K 106 (6 * 0 + i) then t.2.1 106 (6 * 0 + i) else t'.2.1 106 (6 * 0 + i)) = t'.2.1 106 (6 * 0 + i) := if_neg (by rw [wo_m hq.2.2]; decide)
    rw [← e]; exact this
theorem wm_sub' {L M : List (Nat × Nat)} {s t : HS} (h : Fr L s t) (hs : wsub L M = true) : Fr M s t := h.mono hs
section TRIAL
variable {p d c h n : Nat} {s t : HS}
/-- the trial takes the hand as it is -/
theorem r_copyH (P : PL p 0 c h n s t) (A : HR 64 h n s t) : ∃ s', f_X7_copyHand 28 64 s = some s' ∧ HR 28 h n s' t ∧ Fr (L_X7_copyHand 28) s s' := by
  have r4 : Rf 28 4 = 29 := by decide
  have r5 : Rf 64 4 = 65 := by decide
  have cp : cpok 0 0 5 5 5 = true := by decide
  have n64 : ∀ (u : HS) k x, (sI u 28 k x).1 64 = u.1 64 := fun u k x => sI_n u k x (by decide)
  have n65 : ∀ (u : HS) k x, (sI u 28 k x).1 65 = u.1 65 := fun u k x => sI_n u k x (by decide)
  have n29 : ∀ (u : HS) k x, (sI u 28 k x).1 29 = u.1 29 := fun u k x => sI_n u k x (by decide)
  have e : f_X7_copyHand 28 64 s = some (sA (sI (sI (sI (sI s 28 0 (s.1 64 0)) 28 1 (s.1 64 1)) 28 2 (s.1 64 2)) 28 3 (s.1 64 3)) 29 (va_cpy (s.1 65) (s.1 29) (0 : Int32).toNatClampNeg (0 : Int32).toNatClampNeg (5 : Int32).toNatClampNeg)) := by
    unfold f_X7_copyHand
    simp only [ltb_t, cp, gd_t, r4, r5]
    simp only [n64, n65, n29]
  have f := w_X7_copyHand 28 64 s _ e
  have f' : Fr (L_X7_copyHand 28) s (sA (sI (sI (sI (sI s 28 0 (s.1 64 0)) 28 1 (s.1 64 1)) 28 2 (s.1 64 2)) 28 3 (s.1 64 3)) 29 (va_cpy (s.1 65) (s.1 29) (0 : Int32).toNatClampNeg (0 : Int32).toNatClampNeg (5 : Int32).toNatClampNeg)) := f
  refine ⟨_, e, ?_, f'⟩
  have hn := P.n6
  obtain ⟨a1, a2, a3, a4, a5, a6⟩ := A
  refine ⟨by decide, ?_, ?_, ?_, ?_, fun i hi => ?_⟩
  · show EqB (sI (sI (sI (sI s 28 0 (s.1 64 0)) 28 1 (s.1 64 1)) 28 2 (s.1 64 2)) 28 3 (s.1 64 3) |>.1 28 0) _ _ _
    simp only [sI_at, Nat.reduceEqDiff, if_true, if_false]; exact a2
  · show EqB (sI (sI (sI (sI s 28 0 (s.1 64 0)) 28 1 (s.1 64 1)) 28 2 (s.1 64 2)) 28 3 (s.1 64 3) |>.1 28 1) _ _ _
    simp only [sI_at, Nat.reduceEqDiff, if_true, if_false]; exact a3
  · show EqB (sI (sI (sI (sI s 28 0 (s.1 64 0)) 28 1 (s.1 64 1)) 28 2 (s.1 64 2)) 28 3 (s.1 64 3) |>.1 28 2) _ _ _
    simp only [sI_at, Nat.reduceEqDiff, if_true, if_false]; exact a4
  · show EqB (sI (sI (sI (sI s 28 0 (s.1 64 0)) 28 1 (s.1 64 1)) 28 2 (s.1 64 2)) 28 3 (s.1 64 3) |>.1 28 3) _ _ _
    simp only [sI_at, Nat.reduceEqDiff, if_true, if_false]; exact a5
  · rw [r4]
    show EqB (va_cpy (s.1 65) (s.1 29) (0 : Int32).toNatClampNeg (0 : Int32).toNatClampNeg (I 5).toNatClampNeg i) _ _ _
    rw [cpy5 (by omega) (by omega)]
    have := a6 i hi
    rw [r5] at this
    exact this
theorem r_copy (R : Rel p d c h n s t) : ∃ s', f_X7_copyHand 28 64 s = some s' ∧ TRL p c h n s' (sI t 101 0 0) ∧ Fr (L_X7_copyHand 28) s s' := by
  have R0 := R.t0
  obtain ⟨s', e, A, f'⟩ := r_copyH R0.2.1 R0.2.2.1
  have av : av1 p (L_X7_copyHand 28) = true := by rcases okX4_c R.2.1.1 with rfl | rfl <;> decide +kernel
  exact ⟨s', e, ⟨by rw [f'.2.2.1 (by decide)]; exact R.1.1, R0.2.1.fr (M := []) f' Fr.refl av (by decide), A, R0.2.2.2.1.fr R.2.1.1 (M := []) f' Fr.refl av (by decide), R0.2.2.2.2.2.1⟩, f'⟩
/-- a trial's round -/
theorem r_pT (T : TRL p c h n s t) : ∃ s' t', f_X11_playTrial s = some s' ∧ f_X12_runs t = some t' ∧ SR p 28 c h n s' t' ∧ RS n s' t' ∧ TRL p c h n s' t' ∧ t'.1 145 = t.1 145 ∧ Fr L_X11_playTrial s s' ∧ Fr L_X12_runs t t' := by
  obtain ⟨q, P, A, O, D⟩ := T
  obtain ⟨s1, s', t', e1, e2, e3, e4, e5, e6, e7⟩ := r_playA P A O D
  have av : av1 p L_X11_playTrial = true := (avR1_e (avR_play p (okX4_c P.1)).1).1
  refine ⟨s', t', ?_, e3, e4, e5, ⟨by rw [e6.2.2.1 (by decide)]; exact q, P.fr e6 e7 av (by decide +kernel), A.fr e6 e7 (by decide +kernel) (by decide +kernel), O.fr P.1 e6 e7 av (by decide +kernel), ?_⟩, e7.o (by decide +kernel), e6, e7⟩
  · unfold f_X11_playTrial
    rw [q, P.1, gd_t, e1, bnd_t, e2, bnd_t]
  · unfold IDLE
    rw [e7.1 101 61 (by decide +kernel), e7.1 101 62 (by decide +kernel), e7.1 101 64 (by decide +kernel)]
    exact D
theorem TRL.upd {s' t' : HS} (T : TRL p c h n s t) (f : Fr [(28, 0), (29, 0)] s s') (g : Fr [(145, 0)] t t') (A : HR 28 h n s' t') : TRL p c h n s' t' := by
  obtain ⟨q, P, -, O, D⟩ := T
  have av : av1 p [(28, 0), (29, 0)] = true := by rcases okX4_c P.1 with rfl | rfl <;> decide
  refine ⟨by rw [f.2.2.1 (by decide)]; exact q, P.fr f g av (by decide), A, O.fr P.1 f g av (by decide), ?_⟩
  unfold IDLE
  rw [g.o (by decide)]; exact D
theorem TRL.urn (T : TRL p c h n s t) {v : Int32} (hv : 0 ≤ v.toInt ∧ v.toInt ≤ 200) : TRL p c h n (sI s 28 2 v) (sI t 145 2 v) := by
  refine T.upd (fr_sI (wm_all (by decide) _)) (fr_sI (wm_all (by decide) _)) ?_
  obtain ⟨-, -, ⟨a1, a2, a3, a4, a5, a6⟩, -, -⟩ := T
  refine ⟨a1, ?_, ?_, ?_, ?_, fun i hi => ?_⟩
  all_goals simp only [show Rf 28 4 = 29 from by decide, sI_at, Nat.reduceEqDiff, if_true, if_false]
  · exact a2
  · exact a3
  · exact ⟨rfl, hv.1, hv.2⟩
  · exact a5
  · have := a6 i hi
    rw [if_neg (by omega)]; exact this
theorem TRL.bell (T : TRL p c h n s t) {v : Int32} (hv : 1 ≤ v.toInt ∧ v.toInt ≤ (t.1 103 3).toInt) : TRL p c h n (sI s 28 1 v) (sI t 145 1 v) := by
  refine T.upd (fr_sI (wm_all (by decide) _)) (fr_sI (wm_all (by decide) _)) ?_
  obtain ⟨-, -, ⟨a1, a2, a3, a4, a5, a6⟩, -, -⟩ := T
  refine ⟨a1, ?_, ?_, ?_, ?_, fun i hi => ?_⟩
  all_goals simp only [show Rf 28 4 = 29 from by decide, sI_at, Nat.reduceEqDiff, if_true, if_false]
  · exact a2
  · exact ⟨rfl, hv.1, hv.2⟩
  · exact a4
  · exact a5
  · have := a6 i hi
    rw [if_neg (by omega)]; exact this
theorem TRL.women (T : TRL p c h n s t) {v : Int32} (hv : 1 ≤ v.toInt ∧ v.toInt ≤ 2) : TRL p c h n (sI s 28 3 v) (sI t 145 3 v) := by
  refine T.upd (fr_sI (wm_all (by decide) _)) (fr_sI (wm_all (by decide) _)) ?_
  obtain ⟨-, -, ⟨a1, a2, a3, a4, a5, a6⟩, -, -⟩ := T
  refine ⟨a1, ?_, ?_, ?_, ?_, fun i hi => ?_⟩
  all_goals simp only [show Rf 28 4 = 29 from by decide, sI_at, Nat.reduceEqDiff, if_true, if_false]
  · exact a2
  · exact a3
  · exact a4
  · exact ⟨rfl, hv.1, hv.2⟩
  · have := a6 i hi
    rw [if_neg (by omega)]; exact this
theorem TRL.out (T : TRL p c h n s t) {v : Int32} (hv : 0 ≤ v.toInt ∧ v.toInt ≤ 2 ^ n - 1) : TRL p c h n (sI s 28 0 v) (sI t 145 0 v) := by
  refine T.upd (fr_sI (wm_all (by decide) _)) (fr_sI (wm_all (by decide) _)) ?_
  obtain ⟨-, -, ⟨a1, a2, a3, a4, a5, a6⟩, -, -⟩ := T
  refine ⟨a1, ?_, ?_, ?_, ?_, fun i hi => ?_⟩
  all_goals simp only [show Rf 28 4 = 29 from by decide, sI_at, Nat.reduceEqDiff, if_true, if_false]
  · exact ⟨rfl, hv.1, hv.2⟩
  · exact a3
  · exact a4
  · exact a5
  · have := a6 i hi
    rw [if_neg (by omega)]; exact this
theorem TRL.hot (T : TRL p c h n s t) {k : Nat} (hk : k < h) {v : Int32} (hv : 0 ≤ v.toInt ∧ v.toInt ≤ 99) : TRL p c h n (sI s 29 k v) (sI t 145 (4 + k) v) := by
  refine T.upd (fr_sI (wm_all (by decide) _)) (fr_sI (wm_all (by decide) _)) ?_
  obtain ⟨-, -, ⟨a1, a2, a3, a4, a5, a6⟩, -, -⟩ := T
  have z0 : ¬ (0 : Nat) = 4 + k := by omega
  have z1 : ¬ (1 : Nat) = 4 + k := by omega
  have z2 : ¬ (2 : Nat) = 4 + k := by omega
  have z3 : ¬ (3 : Nat) = 4 + k := by omega
  refine ⟨a1, ?_, ?_, ?_, ?_, fun i hi => ?_⟩
  all_goals simp only [show Rf 28 4 = 29 from by decide, sI_at, Nat.reduceEqDiff, if_true, if_false, z0, z1, z2, z3]
  · exact a2
  · exact a3
  · exact a4
  · exact a5
  · have := a6 i hi
    by_cases z : i = k
    · subst z; rw [if_pos (Eq.refl _), if_pos (Eq.refl _)]; exact ⟨rfl, hv.1, hv.2⟩
    · rw [if_neg z, if_neg (by omega)]; exact this
/-- where the urn stands best -/
theorem st_stand (R : Rel p d c h n s t) : ∃ x s' t', f_X11_stand s = some (x, s') ∧ f_X12_stand t = some (x, t') ∧ Rel p d c h n s' t' := by
  obtain ⟨s2, e1, T, f1⟩ := r_copy R
  have key : ∀ e k, k + e = 21 → ∀ (a b : Int32) (s t1 : HS), TRL p c h n s t1 → (∀ q, q ≠ 2 → t1.1 145 q = t.1 145 q) → ∃ x s' t', (∀ f, e < f → f_X11_stand_l17 f a b (I (10 * k)) s = some (x, s')) ∧ (∀ x3 K f, e < f → f_X12_stand_l19 x3 K f a b (I (10 * k)) t1 = K x t') ∧ (∀ q, q ≠ 2 → t'.1 145 q = t.1 145 q) := by
    intro e
    induction e with
    | zero =>
      intro k hk a b s t1 T ht
      have hk : k = 21 := by omega
      subst hk
      refine ⟨a, s, t1, fun f hf => ?_, fun x3 K f hf => ?_, ht⟩
      · obtain ⟨f', rfl⟩ : ∃ f', f = f' + 1 := ⟨f - 1, by omega⟩
        simp only [f_X11_stand_l17, f_X11_stand_l17b]
        exact if_pos (by decide)
      · obtain ⟨f', rfl⟩ : ∃ f', f = f' + 1 := ⟨f - 1, by omega⟩
        simp only [f_X12_stand_l19, f_X12_stand_l19b]
        exact if_pos (by decide)
    | succ e ih =>
      intro k hk a b s t1 T ht
      have h200 : ¬ (200 : Int32) < I (10 * k) := by rw [show (200 : Int32) = I 200 from litI 200, I_lt (by omega) (by omega)]; omega
      have nx : I (10 * k) + 10 = I (10 * (k + 1)) := by
        rw [show (10 : Int32) = I 10 from litI 10, I_add]; congr 1
      obtain ⟨s1, t2, d1, d2, d3, d4, d5, d6, -⟩ := r_pT (T.urn (v := I (10 * k)) (by rw [I_toInt (by omega)]; omega))
      obtain ⟨y, y1, y2⟩ := r_drunkInAll d5.2.1 d3.2.1 d4
      have ht2 : ∀ q, q ≠ 2 → t2.1 145 q = t.1 145 q := fun q hq => by rw [d6, sI_s, if_neg hq]; exact ht q hq
      by_cases z : y ≤ b
      · have z' : ¬ b < y := Int32.not_lt.mpr z
        obtain ⟨x, s', t', g1, g2, g3⟩ := ih (k + 1) (by omega) a b s1 t2 d5 ht2
        refine ⟨x, s', t', fun f hf => ?_, fun x3 K f hf => ?_, g3⟩
        · obtain ⟨f', rfl⟩ : ∃ f', f = f' + 1 := ⟨f - 1, by omega⟩
          simp only [f_X11_stand_l17, f_X11_stand_l17b, if_neg h200, ltb_t, d1, bnd_t, y1, if_pos z, nx, g1 f' (by omega)]
        · obtain ⟨f', rfl⟩ : ∃ f', f = f' + 1 := ⟨f - 1, by omega⟩
          simp only [f_X12_stand_l19, f_X12_stand_l19b, if_neg h200, ltb_t, d2, bnd_t, y2, if_neg z', nx, g2 x3 K f' (by omega)]
      · have z' : b < y := Int32.not_le.mp z
        obtain ⟨x, s', t', g1, g2, g3⟩ := ih (k + 1) (by omega) (I (10 * k)) y s1 t2 d5 ht2
        refine ⟨x, s', t', fun f hf => ?_, fun x3 K f hf => ?_, g3⟩
        · obtain ⟨f', rfl⟩ : ∃ f', f = f' + 1 := ⟨f - 1, by omega⟩
          simp only [f_X11_stand_l17, f_X11_stand_l17b, if_neg h200, ltb_t, d1, bnd_t, y1, if_neg z, nx, g1 f' (by omega)]
        · obtain ⟨f', rfl⟩ : ∃ f', f = f' + 1 := ⟨f - 1, by omega⟩
          simp only [f_X12_stand_l19, f_X12_stand_l19b, if_neg h200, ltb_t, d2, bnd_t, y2, if_pos z', nx, g2 x3 K f' (by omega)]
  obtain ⟨x, s', t', g1, g2, g3⟩ := key 21 0 (by omega) 0 (-1) s2 _ T (fun q _ => by rw [sI_n _ _ _ (by decide)])
  have g1 := g1 FU (FU_lt (by omega))
  have g2 := g2 ((sI t 101 0 0).1 145 2) (fun v13 s14 => ltb (sI s14 145 (2) ((sI t 101 0 0).1 145 2)) fun s15 => some (v13, s15)) FU (FU_lt (by omega))
  rw [show 10 * 0 = 0 from rfl, ← I0] at g1 g2
  have c1 : f_X11_stand s = some (x, s') := by
    unfold f_X11_stand
    rw [e1, bnd_t, g1]
  have c2 : f_X12_stand t = some (x, sI t' 145 2 ((sI t 101 0 0).1 145 2)) := by
    unfold f_X12_stand
    rw [ltb_t, ltb_t, g2, ltb_t]
  refine ⟨x, s', _, c1, c2, R.back (K := [(145, 0)]) (M' := L_X12_stand.filter (fun q => q.1 != 145)) (w_X11_stand s _ c1) ((w_X12_stand t _ c2).mono (by decide +kernel)) (by rcases okX4_c R.2.1.1 with rfl | rfl <;> decide +kernel) (by decide +kernel) (fun o k hk => ?_) (by decide)⟩
  have : o = 145 := by
    simp only [wm, List.any_cons, List.any_nil, Bool.or_false, Bool.and_eq_true, beq_iff_eq] at hk
    exact hk.1.symm
  subst this
  rw [sI_s]
  by_cases z : k = 2
  · rw [if_pos z, z, sI_n _ _ _ (by decide)]
  · rw [if_neg z]; exact g3 k z
end TRIAL
