/-! The law's case of rests -/
theorem cv_L_84 : CV RL 84 miX12_rests 2 := ⟨⟨tgk (by decide +kernel) rfl, tgk (by decide +kernel) rfl, tgk (by decide +kernel) rfl, ⟨by decide +kernel, by decide +kernel, by decide +kernel⟩, by decide⟩, tgk (by decide +kernel) rfl, tgk (by decide +kernel) rfl⟩
theorem fr_lrO {r : Option Int32} {s' : HS} : Fr [(158, 0)] s' (lrO r s') := by
  cases r with
  | none => exact Fr.refl
  | some x => exact fr_sL (wm_all (by decide) _)
theorem law_restsO {u0 : HS} (E : RE u0) (v w : Int32) : ∃ r s' x t', f_X11_rests v w u0 = some (r, s') ∧ f_X12_rests v w (lrO r s') = some (x, t') ∧ RE t' ∧ ((r = none ∧ t'.1 101 0 = 1) ∨ (r = some x ∧ t'.1 101 0 = 0)) ∧ t'.2.1 158 = (lrO r s').2.1 158 := by
  obtain ⟨p, d, c, h, n, R⟩ := E
  have okp := okX4_c R.2.1.1
  obtain ⟨r, s', x, t1, e1, e2, R1, -⟩ := st_rests R v w
  have f1 : Fr L_X11_fillGains u0 s' := w_rests v w u0 _ e1
  have R2 : Rel p d c h n u0 s' := R.fr (L := []) Fr.refl f1 (avR_play p okp).2 (by decide +kernel)
  have R2' : Rel p d c h n u0 (lrO r s') := R2.fr (L := []) Fr.refl fr_lrO (avR_play p okp).2 (by decide +kernel)
  obtain ⟨r2, s2, x2, t', d1, d2, R3, d4⟩ := st_rests R2' v w
  rw [e1] at d1
  obtain ⟨rfl, rfl⟩ := Prod.mk.inj (Option.some.inj d1)
  have g1 : Fr L_X12_rests (lrO r s') t' := w_X12_rests v w (lrO r s') _ d2
  have R4 : Rel p d c h n (lrO r s') t' := R3.fr fr_lrO (Fr.refl (L := [])) (by rcases okp with rfl | rfl <;> decide +kernel) (by decide)
  refine ⟨r, s', x2, t', e1, d2, ⟨p, d, c, h, n, R4.fr g1 (Fr.refl (L := [])) ?_ (by decide)⟩, d4, g1.l (by decide +kernel)⟩
  rcases okp with rfl | rfl <;> decide +kernel
