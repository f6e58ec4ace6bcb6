/-! Calls that ask of the ROUND -/
theorem small (v : Int32) (N : Nat) (hN : N < 1000000) : (∃ k, k ≤ N ∧ v = I k) ∨ (v.toInt < 0 ∨ N < v.toInt) := by
  by_cases z : v.toInt < 0 ∨ N < v.toInt
  · exact Or.inr z
  · exact Or.inl ⟨v.toInt.toNat, by omega, I_of (by omega)⟩
theorem within_0 {v a b : Int32} {s : HS} (h : v.toInt < a.toInt ∨ b.toInt < v.toInt) : f_X12_within v a b s = 0 := by
  unfold f_X12_within
  by_cases z : v < a
  · rw [if_pos z]
  · rw [if_neg z]
    rw [Int32.lt_iff_toInt_lt] at z
    rw [if_pos (by rw [Int32.lt_iff_toInt_lt]; omega)]
theorem within_1 {v a b : Int32} {s : HS} (h : a.toInt ≤ v.toInt ∧ v.toInt ≤ b.toInt) : f_X12_within v a b s = 1 := by
  unfold f_X12_within
  rw [if_neg (by rw [Int32.lt_iff_toInt_lt]; omega), if_neg (by rw [Int32.lt_iff_toInt_lt]; omega)]
theorem I_e0 : I 0 = 0 := by unfold I; exact Eq.refl _
theorem I_e1 : I 1 = 1 := by unfold I; exact Eq.refl _
theorem I_e2 : I 2 = 2 := by unfold I; exact Eq.refl _
theorem I_e3 : I 3 = 3 := by unfold I; exact Eq.refl _
theorem I_e4 : I 4 = 4 := by unfold I; exact Eq.refl _
theorem Fr.q3 {L : List (Nat × Nat)} {s t : HS} (f : Fr L s t) (h : wm L 0 3 = false) : t.2.2.2.2.1 = s.2.2.2.2.1 := f.2.2.2.2.1 h
theorem Fr.q4 {L : List (Nat × Nat)} {s t : HS} (f : Fr L s t) (h : wm L 0 4 = false) : t.2.2.2.2.2.1 = s.2.2.2.2.2.1 := f.2.2.2.2.2.1 h
theorem okX7_av6 : ∀ a, a = 28 ∨ a = 64 ∨ a = 81 ∨ a = 86 ∨ a = 91 ∨ a = 96 → (∀ p, p = 2 ∨ p = 38 → av1 p L_X6_layOut = true ∧ (wo L_X6_layOut a = false ∧ wo L_X6_layOut (a + 1) = false)) := by
  intro a ha p hp
  rcases ha with rfl | rfl | rfl | rfl | rfl | rfl <;> rcases hp with rfl | rfl <;> decide +kernel
theorem avR_play : ∀ p, p = 2 ∨ p = 38 → avR1 p L_X11_playTrial = true ∧ avR1 p [] = true := by
  intro p hp
  rcases hp with rfl | rfl <;> decide +kernel
theorem avR_runs : avR2 (L_X12_runs ++ [(101, 1)]) = true := by decide +kernel
section ROUND
variable {p d a c h n : Nat} {s t : HS}
theorem r_layOut (p a : Nat) (s : HS) : ∃ s1, f_X6_layOut p a s = some s1 ∧ Fr L_X6_layOut s s1 ∧ s1.2.2.2.2.1 = p ∧ s1.2.2.2.2.2.1 = a ∧ s1.1 73 2 = 0 ∧ s1.1 73 3 = 0 ∧ s1.1 73 4 = -1 ∧ s1.1 73 5 = -1 ∧ s1.1 73 6 = 0 ∧ s1.1 73 7 = 0 := by
  have e : f_X6_layOut p a s = some (sI (sI (sI (sI (sI (sI (sQ4 (sQ3 s p) a) 73 2 0) 73 3 0) 73 4 (-1)) 73 5 (-1)) 73 6 0) 73 7 0) := by
    unfold f_X6_layOut
    simp only [ltb_t]
  refine ⟨_, e, w_X6_layOut p a s _ e, rfl, rfl, ?_⟩
  simp [sI_at]
def IDLE (t : HS) : Prop := t.1 101 61 = 0 ∧ t.1 101 62 = -1 ∧ t.1 101 64 = -1
/-- a round that is laid out as it is -/
theorem r_playA (P : PL p 0 c h n s t) (A : HR a h n s t) (O : OR p s t) (D : IDLE t) :
    ∃ s1 s' t', f_X6_layOut p a s = some s1 ∧ f_X6_play s1 = some s' ∧ f_X12_runs t = some t' ∧ SR p a c h n s' t' ∧ RS n s' t' ∧ Fr L_X11_playTrial s s' ∧ Fr L_X12_runs t t' := by
  obtain ⟨s1, e1, f1, q3, q4, k2, k3, k4, k5, k6, k7⟩ := r_layOut p a s
  have av := okX7_av6 a (okX7_c A.1) p (okX4_c P.1)
  obtain ⟨s', t', d1, d2, d3, d4, d5, d6⟩ := r_play (P.fr (M := []) f1 Fr.refl av.1 (by decide)) q3 q4 (A.fr (M := []) f1 Fr.refl av.2 (by decide)) ⟨by rw [k2, D.1]; exact ⟨rfl, by decide, by decide⟩, Or.inl ⟨k4, D.2.1⟩, Or.inl ⟨k5, D.2.2⟩⟩ (O.fr P.1 (M := []) f1 Fr.refl av.1 (by decide)) (Or.inl D.2.2)
  exact ⟨s1, s', t', e1, d1, d2, d3, d4, (f1.mono ws_X11_playTrial_X6_layOut).trans (d5.mono ws_X11_playTrial_X6_play), d6⟩
theorem r_playNow (R : Rel p d c h n s t) : ∃ s' t', f_X11_playNow s = some s' ∧ f_X12_runs (sI t 101 0 0) = some t' ∧ SR p 64 c h n s' t' ∧ RS n s' t' ∧ Rel p d c h n s' t' := by
  have g : Fr [(101, 1)] t (sI t 101 0 0) := fr_sI (by decide)
  have R' : Rel p d c h n s (sI t 101 0 0) := R.fr (L := []) Fr.refl g (avR_play p (okX4_c R.2.1.1)).2 (by decide +kernel)
  obtain ⟨s1, s', t', e1, e2, e3, e4, e5, e6, e7⟩ := r_playA R'.2.1 R'.2.2.1 R'.2.2.2.1 R'.2.2.2.2.2.1
  refine ⟨s', t', ?_, e3, e4, e5, R'.fr e6 e7 (avR_play p (okX4_c R.2.1.1)).1 (by decide +kernel)⟩
  unfold f_X11_playNow
  rw [R.1.1, R.2.1.1, gd_t, e1, bnd_t, e2, bnd_t]
theorem Rel.t0 (R : Rel p d c h n s t) : Rel p d c h n s (sI t 101 0 0) := R.fr (L := []) (M := [(101, 1)]) Fr.refl (fr_sI (by decide)) (avR_play p (okX4_c R.2.1.1)).2 (by decide +kernel)
theorem servedAt_b (S : SR p a c h n s t) {i : Nat} (hi : i < n) : True := trivial
/-- the same, how many are served by a second beyond all -/
theorem st_round (R : Rel p d c h n s t) (v : Int32) (hb : ∀ s' t', f_X11_playNow s = some s' → f_X12_runs (sI t 101 0 0) = some t' → SR p 64 c h n s' t' → ∀ i, i < n → ((1000000 : Int32) < t'.1 151 i ↔ (100000 : Int32) < t'.1 151 i)) : ∃ x s' t', f_X11_round v s = some (x, s') ∧ f_X12_round v t = some (x, t') ∧ Rel p d c h n s' t' := by
  obtain ⟨s', t', e1, e2, e3, e4, e5⟩ := r_playNow R
  have hb := hb s' t' e1 e2 e3
  have P := e3.1
  have hp := e3.2.1
  rcases small v 4 (by omega) with ⟨k, k1, rfl⟩ | z
  · have w1 : f_X12_within (I k) 0 4 (sI t 101 0 0) = 1 := within_1 (by
      have : (4 : Int32).toInt = 4 := by decide
      rw [Int32.toInt_zero, this, I_toInt (by omega)]; omega)
    unfold f_X11_round f_X12_round
    rw [e1, bnd_t, ltb_t, w1, if_neg one_ne, e2, bnd_t]
    have : k = 0 ∨ k = 1 ∨ k = 2 ∨ k = 3 ∨ k = 4 := by omega
    rcases this with rfl | rfl | rfl | rfl | rfl
    · obtain ⟨x, x1, x2⟩ := r_paid P hp e4
      rw [if_pos I_e0, x1, bnd_t, if_neg (by decide), if_pos I_e0, x2, bnd_t]
      exact ⟨_, _, _, rfl, rfl, e5⟩
    · obtain ⟨x, x1, x2⟩ := r_drunkInAll P hp e4
      rw [if_neg (by decide), if_pos I_e1, x1, bnd_t, if_neg (by decide), if_neg (by decide), x2, bnd_t]
      exact ⟨_, _, _, rfl, rfl, e5⟩
    · obtain ⟨x, x1, x2⟩ := r_leftInAll P hp e4
      rw [if_neg (by decide), if_neg (by decide), if_pos I_e2, x1, bnd_t, if_pos (by decide), if_pos I_e2, x2, bnd_t]
      exact ⟨_, _, _, rfl, rfl, e5⟩
    · obtain ⟨k, x0, x1, x2⟩ := r_behind P e4
      rw [if_neg (by decide), if_neg (by decide), if_neg (by decide), if_pos I_e3, if_pos (by decide), if_neg (by decide), if_pos I_e3, x2, bnd_t, x1, bc_e]
      exact ⟨_, _, _, rfl, rfl, e5⟩
    · obtain ⟨x, x1, x2⟩ := r_servedBy P hp e4 hb
      rw [if_neg (by decide), if_neg (by decide), if_neg (by decide), if_neg (by decide), if_pos I_e4, x1, bnd_t, if_pos (by decide), if_neg (by decide), if_neg (by decide), x2, bnd_t]
      exact ⟨_, _, _, rfl, rfl, e5⟩
  · have w0 : f_X12_within v 0 4 (sI t 101 0 0) = 0 := within_0 (by
      have : (4 : Int32).toInt = 4 := by decide
      rw [Int32.toInt_zero, this]; omega)
    have ne : ∀ k : Nat, k ≤ 4 → ¬ v = I k := by
      intro k hk e
      rw [e, I_toInt (by omega)] at z
      omega
    have z0 := ne 0 (by omega)
    have z1 := ne 1 (by omega)
    have z2 := ne 2 (by omega)
    have z3 := ne 3 (by omega)
    have z4 := ne 4 (by omega)
    rw [I_e0] at z0
    rw [I_e1] at z1
    rw [I_e2] at z2
    rw [I_e3] at z3
    rw [I_e4] at z4
    unfold f_X11_round f_X12_round
    rw [e1, bnd_t, ltb_t, w0, if_pos (Eq.refl _), if_neg z0, if_neg z1, if_neg z2, if_neg z3, if_neg z4]
    exact ⟨_, _, _, rfl, rfl, e5.fr (M := L_X12_runs) (L := []) Fr.refl Fr.refl (avR_play p (okX4_c R.2.1.1)).2 (by decide +kernel) |> fun _ => R.t0.fr (w_X11_playNow s s' e1) (M := []) Fr.refl (by rcases okX4_c R.2.1.1 with rfl | rfl <;> decide +kernel) (by decide)⟩
end ROUND
