/-! mark and rests upon one heap -/
theorem bnd_n {α β : Type} {f : α → Option β} : bnd none f = none := by unfold bnd; exact Eq.refl _
theorem mS_s : ∀ m, m < 4 → wsub (L_X7_copyAll (mS m)) LA1 = true ∧ wm LA1 (mS m) 11 = true := by decide +kernel
theorem w_mark (v w : Int32) (s : HS) : FX Prod.snd LA1 s (f_X11_mark v w s) := by
  intro r hr
  by_cases z1 : v < 0
  · unfold f_X11_mark at hr
    rw [if_pos z1] at hr
    cases Option.some.inj hr
    exact Fr.refl
  by_cases z2 : v < 4
  case neg =>
    unfold f_X11_mark at hr
    rw [if_neg z1, if_neg z2] at hr
    cases Option.some.inj hr
    exact Fr.refl
  have i0 : (0 : Int32).toInt = 0 := by decide
  have i4 : (4 : Int32).toInt = 4 := by decide
  have V : ∃ k, k < 4 ∧ v = I k := by
    rw [Int32.lt_iff_toInt_lt] at z1 z2
    exact ⟨v.toInt.toNat, by omega, I_of (by omega)⟩
  obtain ⟨k, k4, rfl⟩ := V
  have ik : inb (I k) 4 = true := inb_t (by omega) (by omega)
  have kk : (I k).toNatClampNeg = k := I_nat (by omega)
  obtain ⟨ok1, rf1, -, -, -⟩ := mS_ok k k4
  obtain ⟨ms1, ms2⟩ := mS_s k k4
  unfold f_X11_mark at hr
  rw [if_neg z1, if_pos z2, ik, gd_t, ltb_t, kk, rf1] at hr
  by_cases w0 : w = 0
  · rw [if_pos w0] at hr
    cases hc : f_X7_copyAll (mS k) 64 s with
    | none => rw [hc, bnd_n] at hr; cases hr
    | some s2 =>
      rw [hc, bnd_t, ltb_t] at hr
      cases Option.some.inj hr
      have f : Fr (L_X7_copyAll (mS k)) s s2 := w_X7_copyAll _ _ s _ hc
      exact (f.mono ms1).trans (fr_sI ms2)
  · rw [if_neg w0] at hr
    by_cases y : s.1 (mS k) 11 = 0
    · rw [if_pos y] at hr
      cases Option.some.inj hr
      exact Fr.refl
    · rw [if_neg y] at hr
      cases hc : f_X7_copyAll 64 (mS k) s with
      | none => rw [hc, bnd_n] at hr; cases hr
      | some s2 =>
        rw [hc, bnd_t, ltb_t] at hr
        cases Option.some.inj hr
        have f : Fr (L_X7_copyAll 64) s s2 := w_X7_copyAll _ _ s _ hc
        exact (f.mono (by decide)).trans (fr_sI (by decide))
theorem law_mark {u0 : HS} (E : RE u0) (v w : Int32) : ∃ x s' t', f_X11_mark v w u0 = some (x, s') ∧ f_X12_mark v w s' = some (x, t') ∧ RE t' :=
  step2 (F := fun s => f_X11_mark v w s) (G := fun s => f_X12_mark v w s) (fun R => st_mark R v w) (fun s => w_mark v w s) (fun s => w_X12_mark v w s) (by decide +kernel) (by decide +kernel) E
theorem w_rests (v w : Int32) (s : HS) : FX Prod.snd L_X11_fillGains s (f_X11_rests v w s) := by
  intro r hr
  unfold f_X11_rests at hr
  cases h1 : f_X11_isSome v s with
  | none => rw [h1, bnd_n] at hr; cases hr
  | some y =>
    rw [h1, bnd_t] at hr
    by_cases z0 : y = 0
    · rw [if_pos z0] at hr; cases Option.some.inj hr; exact Fr.refl
    rw [if_neg z0] at hr
    by_cases z1 : 4 < f_J6_bitCount_0f7a4 v s
    · rw [if_pos z1] at hr; cases Option.some.inj hr; exact Fr.refl
    rw [if_neg z1] at hr
    by_cases z2 : w < -1
    · rw [if_pos z2] at hr; cases Option.some.inj hr; exact Fr.refl
    rw [if_neg z2] at hr
    cases h2 : f_X11_fillGains v s with
    | none => rw [h2, bnd_n] at hr; cases hr
    | some s2 =>
      rw [h2, bnd_t] at hr
      have f : Fr L_X11_fillGains s s2 := w_X11_fillGains v s _ h2
      cases h3 : f_X11_rests_l39 v w (fun v3 => (if w = (-1) then some (some v3) else some none)) s2 FU 0 0 with
      | none => rw [h3, bnd_n] at hr; cases hr
      | some r2 =>
        rw [h3, bnd_t] at hr
        cases Option.some.inj hr
        exact f
theorem law_rests {u0 : HS} (E : RE u0) (v w : Int32) : ∃ r s' x t', f_X11_rests v w u0 = some (r, s') ∧ f_X12_rests v w s' = some (x, t') ∧ RE t' ∧ ((r = none ∧ t'.1 101 0 = 1) ∨ (r = some x ∧ t'.1 101 0 = 0)) := by
  obtain ⟨p, d, c, h, n, R⟩ := E
  have okp := okX4_c R.2.1.1
  obtain ⟨r, s', x, t1, e1, e2, R1, -⟩ := st_rests R v w
  have f1 : Fr L_X11_fillGains u0 s' := w_rests v w u0 _ e1
  have R2 : Rel p d c h n u0 s' := R.fr (L := []) Fr.refl f1 (avR_play p okp).2 (by decide +kernel)
  obtain ⟨r2, s2, x2, t', d1, d2, R3, d4⟩ := st_rests R2 v w
  rw [e1] at d1
  obtain ⟨rfl, rfl⟩ := Prod.mk.inj (Option.some.inj d1)
  have g1 : Fr L_X12_rests s' t' := w_X12_rests v w s' _ d2
  refine ⟨r, s', x2, t', e1, d2, ⟨p, d, c, h, n, R3.fr g1 (Fr.refl (L := [])) ?_ (by decide)⟩, d4⟩
  rcases okp with rfl | rfl <;> decide +kernel
