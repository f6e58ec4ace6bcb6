/-! Calls that ask of the ROUND -/
theorem small (v : Int32) (N : Nat) (hN : N < 1000000) : (∃ k, k ≤ N ∧ v = I k) ∨ (v.toInt < 0 ∨ N < v.toInt) := by
  by_cases z : v.toInt < 0 ∨ N < v.toInt
  · exact Or.inr z
  · exact Or.inl ⟨v.toInt.toNat, by omega, I_of (by omega)⟩
theorem within_0 {v a b : Int32} {s : HS} (h : v.toInt < a.toInt ∨ b.toInt < v.toInt) : f_X12_within v a b s = 0 := by
  unfold f_X12_within
  by_cases z : v < a
  · rw [if_pos z]
  · rw [if_neg z]
    rw [Int32.lt_iff_toInt_lt] at z
    rw [if_pos (by rw [Int32.lt_iff_toInt_lt]; omega)]
theorem within_1 {v a b : Int32} {s : HS} (h : a.toInt ≤ v.toInt ∧ v.toInt ≤ b.toInt) : f_X12_within v a b s = 1 := by
  unfold f_X12_within
  rw [if_neg (by rw [Int32.lt_iff_toInt_lt]; omega), if_neg (by rw [Int32.lt_iff_toInt_lt]; omega)]
theorem I_e0 : I 0 = 0 := by unfold I; exact Eq.refl _
theorem I_e1 : I 1 = 1 := by unfold I; exact Eq.refl _
theorem I_e2 : I 2 = 2 := by unfold I; exact Eq.refl _
theorem I_e3 : I 3 = 3 := by unfold I; exact Eq.refl _
theorem I_e4 : I 4 = 4 := by unfold I; exact Eq.refl _
theorem Fr.q3 {L : List (Nat × Nat)} {s t : HS} (f : Fr L s t) (h : wm L 0 3 = false) : t.2.2.2.2.1 = s.2.2.2.2.1 := f.2.2.2.2.1 h
theorem Fr.q4 {L : List (Nat × Nat)} {s t : HS} (f : Fr L s t) (h : wm L 0 4 = false) : t.2.2.2.2.2.1 = s.2.2.2.2.2.1 := f.2.2.2.2.2.1 h
theorem okX7_av6 : ∀ a, a = 28 ∨ a = 64 ∨ a = 81 ∨ a = 86 ∨ a = 91 ∨ a = 96 → (∀ p, p = 2 ∨ p = 38 → av1 p L_X6_layOut = true ∧ (wo L_X6_layOut a = false ∧ wo L_X6_layOut (a + 1) = false)) := by
  intro a ha p hp
  rcases ha with rfl | rfl | rfl | rfl | rfl | rfl <;> rcases hp with rfl | rfl <;> decide +kernel
theorem avR_play : ∀ p, p = 2 ∨ p = 38 → avR1 p L_X11_playTrial = true ∧ avR1 p [] = true := by
  intro p hp
  rcases hp with rfl | rfl <;> decide +kernel
theorem avR_runs : avR2 (L_X12_runs ++ [(101, 1)]) = true := by decide +kernel
section ROUND
variable {p d a c h n : Nat} {s t : HS}
theorem r_layOut (p a : Nat) (s : HS) : ∃ s1, f_X6_layOut p a s = some s1 ∧ Fr L_X6_layOut s s1 ∧ s1.2.2.2.2.1 = p ∧ s1.2.2.2.2.2.1 = a ∧ s1.1 73 2 = 0 ∧ s1.1 73 3 = 0 ∧ s1.1 73 4 = -1 ∧ s1.1 73 5 = -1 ∧ s1.1 73 6 = 0 ∧ s1.1 73 7 = 0 := by
  have e : f_X6_layOut p a s = some (sI (sI (sI (sI (sI (sI (sQ4 (sQ3 s p) a) 73 2 0) 73 3 0) 73 4 (-1)) 73 5 (-1)) 73 6 0) 73 7 0) := by
    unfold f_X6_layOut
    simp only [ltb_t]
  refine ⟨_, e, w_X6_layOut p a s _ e, rfl, rfl, ?_⟩
  simp [sI_at]
def IDLE (t : HS) : Prop := t.1 101 61 = 0 ∧ t.1 101 62 = -1 ∧ t.1 101 64 = -1
/-- a round that is laid out as it is -/
theorem r_playA (P : PL p 0 c h n s t) (A : HR a h n s t) (O : OR p s t) (D : IDLE t) :
    ∃ s1 s' t', f_X6_layOut p a s = some s1 ∧ f_X6_play s1 = some s' ∧ f_X12_runs t = some t' ∧ SR p a c h n s' t' ∧ RS n s' t' ∧ Fr L_X11_playTrial s s' ∧ Fr L_X12_runs t t' := by
  obtain ⟨s1, e1, f1, q3, q4, k2, k3, k4, k5, k6, k7⟩ := r_layOut p a s
  have av := okX7_av6 a (okX7_c A.1) p (okX4_c P.1)
  obtain ⟨s', t', d1, d2, d3, d4, d5, d6⟩ := r_play (P.fr (M := []) f1 Fr.refl av.1 (by decide)) q3 q4 (A.fr (M := []) f1 Fr.refl av.2 (by decide)) ⟨by rw [k2, D.1]; exact ⟨rfl, by decide, by decide⟩, Or.inl ⟨k4, D.2.1⟩, Or.inl ⟨k5, D.2.2⟩⟩ (O.fr P.1 (M := []) f1 Fr.refl av.1 (by decide)) (Or.inl D.2.2)
  exact ⟨s1, s', t', e1, d1, d2, d3, d4, (f1.mono ws_X11_playTrial_X6_layOut).trans (d5.mono ws_X11_playTrial_X6_play), d6⟩
theorem r_playNow (R : Rel p d c h n s t) : ∃ s' t', f_X11_playNow s = some s' ∧ f_X12_runs (sI t 101 0 0) = some t' ∧ SR p 64 c h n s' t' ∧ RS n s' t' ∧ Rel p d c h n s' t' := by
  have g : Fr [(101, 1)] t (sI t 101 0 0) := fr_sI (by decide)
  have R' : Rel p d c h n s (sI t 101 0 0) := R.fr (L := []) Fr.refl g (avR_play p (okX4_c R.2.1.1)).2 (by decide +kernel)
  obtain ⟨s1, s', t', e1, e2, e3, e4, e5, e6, e7⟩ := r_playA R'.2.1 R'.2.2.1 R'.2.2.2.1 R'.2.2.2.2.2.1
  refine ⟨s', t', ?_, e3, e4, e5, R'.fr e6 e7 (avR_play p (okX4_c R.2.1.1)).1 (by decide +kernel)⟩
  unfold f_X11_playNow
  rw [R.1.1, R.2.1.1, gd_t, e1, bnd_t, e2, bnd_t]
theorem Rel.t0 (R : Rel p d c h n s t) : Rel p d c h n s (sI t 101 0 0) := R.fr (L := []) (M := [(101, 1)]) Fr.refl (fr_sI (by decide)) (avR_play p (okX4_c R.2.1.1)).2 (by decide +kernel)
theorem SR.far (S : SR p a c h n s t) {i : Nat} (hi : i < n) : (1000000 : Int32) < t.1 151 i ↔ (100000 : Int32) < t.1 151 i := by
  have e1 : (1000000 : Int32).toInt = 1000000 := by decide
  have e2 : (100000 : Int32).toInt = 100000 := by decide
  have e3 : (-1 : Int32).toInt = -1 := by decide
  rw [Int32.lt_iff_toInt_lt, Int32.lt_iff_toInt_lt, e1, e2]
  rcases (S.2.2.2.2.2.2.1 i hi).2.2.2.2.2.2.2.1 with q | q
  · rw [q, e3]; omega
  · omega
theorem st_round (R : Rel p d c h n s t) (v : Int32) : ∃ x s' t', f_X11_round v s = some (x, s') ∧ f_X12_round v t = some (x, t') ∧ Rel p d c h n s' t' := by
  obtain ⟨s', t', e1, e2, e3, e4, e5⟩ := r_playNow R
  have hb : ∀ i, i < n → ((1000000 : Int32) < t'.1 151 i ↔ (100000 : Int32) < t'.1 151 i) := fun i hi => e3.far hi
  have P := e3.1
  have hp := e3.2.1
  rcases small v 4 (by omega) with ⟨k, k1, rfl⟩ | z
  · have w1 : f_X12_within (I k) 0 4 (sI t 101 0 0) = 1 := within_1 (by
      have : (4 : Int32).toInt = 4 := by decide
      rw [Int32.toInt_zero, this, I_toInt (by omega)]; omega)
    unfold f_X11_round f_X12_round
    rw [e1, bnd_t, ltb_t, w1, if_neg one_ne, e2, bnd_t]
    have : k = 0 ∨ k = 1 ∨ k = 2 ∨ k = 3 ∨ k = 4 := by omega
    rcases this with rfl | rfl | rfl | rfl | rfl
    · obtain ⟨x, x1, x2⟩ := r_paid P hp e4
      rw [if_pos I_e0, x1, bnd_t, if_neg (by decide), if_pos I_e0, x2, bnd_t]
      exact ⟨_, _, _, rfl, rfl, e5⟩
    · obtain ⟨x, x1, x2⟩ := r_drunkInAll P hp e4
      rw [if_neg (by decide), if_pos I_e1, x1, bnd_t, if_neg (by decide), if_neg (by decide), x2, bnd_t]
      exact ⟨_, _, _, rfl, rfl, e5⟩
    · obtain ⟨x, x1, x2⟩ := r_leftInAll P hp e4
      rw [if_neg (by decide), if_neg (by decide), if_pos I_e2, x1, bnd_t, if_pos (by decide), if_pos I_e2, x2, bnd_t]
      exact ⟨_, _, _, rfl, rfl, e5⟩
    · obtain ⟨k, x0, x1, x2⟩ := r_behind P e4
      rw [if_neg (by decide), if_neg (by decide), if_neg (by decide), if_pos I_e3, if_pos (by decide), if_neg (by decide), if_pos I_e3, x2, bnd_t, x1, bc_e]
      exact ⟨_, _, _, rfl, rfl, e5⟩
    · obtain ⟨x, x1, x2⟩ := r_servedBy P hp e4 hb
      rw [if_neg (by decide), if_neg (by decide), if_neg (by decide), if_neg (by decide), if_pos I_e4, x1, bnd_t, if_pos (by decide), if_neg (by decide), if_neg (by decide), x2, bnd_t]
      exact ⟨_, _, _, rfl, rfl, e5⟩
  · have w0 : f_X12_within v 0 4 (sI t 101 0 0) = 0 := within_0 (by
      have : (4 : Int32).toInt = 4 := by decide
      rw [Int32.toInt_zero, this]; omega)
    have ne : ∀ k : Nat, k ≤ 4 → ¬ v = I k := by
      intro k hk e
      rw [e, I_toInt (by omega)] at z
      omega
    have z0 := ne 0 (by omega)
    have z1 := ne 1 (by omega)
    have z2 := ne 2 (by omega)
    have z3 := ne 3 (by omega)
    have z4 := ne 4 (by omega)
    rw [I_e0] at z0
    rw [I_e1] at z1
    rw [I_e2] at z2
    rw [I_e3] at z3
    rw [I_e4] at z4
    unfold f_X11_round f_X12_round
    rw [e1, bnd_t, ltb_t, w0, if_pos (Eq.refl _), if_neg z0, if_neg z1, if_neg z2, if_neg z3, if_neg z4]
    exact ⟨_, _, _, rfl, rfl, R.t0.fr (w_X11_playNow s s' e1) (M := []) Fr.refl (by rcases okX4_c R.2.1.1 with rfl | rfl <;> decide +kernel) (by decide)⟩
end ROUND
section WAS
variable {p d c h n : Nat} {s t : HS}
theorem st_served (R : Rel p d c h n s t) (v w : Int32) : ∃ x s' t', f_X11_served v w s = some (x, s') ∧ f_X12_served v w t = some (x, t') ∧ Rel p d c h n s' t' := by
  have P := R.2.1
  have hn := P.n6
  have nb : ∀ (x y : Int32), y = 0 → (f_X11_isBuyer v s = some y) → f_X12_isBuyer v (sI t 101 0 0) = y → ∃ x s' t', f_X11_served v w s = some (x, s') ∧ f_X12_served v w t = some (x, t') ∧ Rel p d c h n s' t' := by
    intro x y e e1 e2
    subst e
    unfold f_X11_served f_X12_served
    rw [e1, bnd_t, if_pos (Eq.refl _), ltb_t, e2, if_pos (Eq.refl _)]
    exact ⟨_, _, _, rfl, rfl, R.t0⟩
  have o103 : (sI t 101 0 0).1 103 = t.1 103 := sI_n _ _ _ (by decide)
  by_cases z : v < 0
  · exact nb 0 0 rfl (by unfold f_X11_isBuyer; rw [if_pos z]) (by unfold f_X12_isBuyer; rw [if_pos z])
  by_cases z2 : I n ≤ v
  · exact nb 0 0 rfl (by unfold f_X11_isBuyer; rw [if_neg z, R.1.1, P.1, gd_t, P.nc, if_pos z2]) (by unfold f_X12_isBuyer; rw [if_neg z, o103, P.nm, if_pos z2])
  have e1 : f_X11_isBuyer v s = some 1 := by unfold f_X11_isBuyer; rw [if_neg z, R.1.1, P.1, gd_t, P.nc, if_neg z2]
  have e2 : f_X12_isBuyer v (sI t 101 0 0) = 1 := by unfold f_X12_isBuyer; rw [if_neg z, o103, P.nm, if_neg z2]
  rw [Int32.lt_iff_toInt_lt, Int32.toInt_zero] at z
  rw [Int32.le_iff_toInt_le, I_toInt (by omega)] at z2
  obtain ⟨i, i1, hi⟩ : ∃ i : Nat, v = I i ∧ i < n := ⟨v.toInt.toNat, I_of (by omega), by omega⟩
  subst i1
  have i6 : inb (I i) 6 = true := inb_t (by omega) (by omega)
  have ii : (I i).toNatClampNeg = i := I_nat (by omega)
  have o145 : (sI t 101 0 0).1 145 = t.1 145 := sI_n _ _ _ (by decide)
  have o1 : s.1 64 0 = t.1 145 0 := R.2.2.1.2.1.1
  unfold f_X11_served f_X12_served
  rw [e1, bnd_t, if_neg one_ne, ltb_t, e2, if_neg one_ne, o1, o145]
  by_cases z3 : ((t.1 145 0) >>> (I i &&& 31)) &&& (1 : Int32) = 0
  · rw [if_pos z3, if_pos z3]; exact ⟨_, _, _, rfl, rfl, R.t0⟩
  rw [if_neg z3, if_neg z3]
  obtain ⟨s', t', d1, d2, d3, d4, d5⟩ := r_playNow R
  obtain ⟨a1, a2, a3, a4, a5⟩ := d4.1 i hi
  obtain ⟨b1, b2, b3, -⟩ := d4.2.1 i hi
  rw [d1, bnd_t]
  have four : (4 : Int32).toInt = 4 := by decide
  rcases small w 4 (by omega) with ⟨k, k1, rfl⟩ | z4
  · rw [within_1 (by rw [Int32.toInt_zero, four, I_toInt (by omega)]; omega), if_neg one_ne, d2, bnd_t, i6, gd_t, gd_t, gd_t, gd_t, gd_t, gd_t, gd_t, gd_t, gd_t, ii]
    have : k = 0 ∨ k = 1 ∨ k = 2 ∨ k = 3 ∨ k = 4 := by omega
    rcases this with rfl | rfl | rfl | rfl | rfl
    · rw [if_pos I_e0, if_neg (by decide), if_pos I_e0, a1]; exact ⟨_, _, _, rfl, rfl, d5⟩
    · rw [if_neg (by decide), if_pos I_e1, if_neg (by decide), if_neg (by decide), a3]; exact ⟨_, _, _, rfl, rfl, d5⟩
    · rw [if_neg (by decide), if_neg (by decide), if_pos I_e2, if_pos (by decide), if_pos I_e2, b1.1]; exact ⟨_, _, _, rfl, rfl, d5⟩
    · rw [if_neg (by decide), if_neg (by decide), if_neg (by decide), if_pos I_e3, if_pos (by decide), if_neg (by decide), if_pos I_e3, b2.1]; exact ⟨_, _, _, rfl, rfl, d5⟩
    · rw [if_neg (by decide), if_neg (by decide), if_neg (by decide), if_neg (by decide), if_pos I_e4, if_pos (by decide), if_neg (by decide), if_neg (by decide), b3]; exact ⟨_, _, _, rfl, rfl, d5⟩
  · have ne : ∀ k : Nat, k ≤ 4 → ¬ w = I k := by
      intro k hk e
      rw [e, I_toInt (by omega)] at z4
      omega
    have z0 := ne 0 (by omega)
    have z1 := ne 1 (by omega)
    have z2 := ne 2 (by omega)
    have z3 := ne 3 (by omega)
    have z5 := ne 4 (by omega)
    rw [I_e0] at z0
    rw [I_e1] at z1
    rw [I_e2] at z2
    rw [I_e3] at z3
    rw [I_e4] at z5
    rw [within_0 (by rw [Int32.toInt_zero, four]; omega), if_pos (Eq.refl _), if_neg z0, if_neg z1, if_neg z2, if_neg z3, if_neg z5]
    exact ⟨_, _, _, rfl, rfl, R.t0.fr (w_X11_playNow s s' d1) (M := []) Fr.refl (by rcases okX4_c R.2.1.1 with rfl | rfl <;> decide +kernel) (by decide)⟩
theorem I_2 {k : Nat} : I k * (2 : Int32) = I (2 * k) := by
  show I k * I 2 = _
  rw [I_mul, Nat.mul_comm]
/-- by how many minutes it was late -/
theorem st_was (R : Rel p d c h n s t) : ∃ x s' t', f_X11_was s = some (x, s') ∧ f_X12_was t = some (x, t') ∧ Rel p d c h n s' t' := by
  obtain ⟨s', t', d1, d2, d3, d4, d5⟩ := r_playNow R
  obtain ⟨m, m1, m2, m3, m4⟩ := d5.2.2.2.2.2.2.2.1.2.2
  have P := d5.2.1
  have hp := d3.2.1
  -- all that was seen, for one lateness
  have inner : ∀ L : Int32, ∃ g : Int32, (g = 0 ∨ g = 1) ∧ (∀ v1 K, f_X11_was_l19 v1 L K FU 1 0 s' = K g s') ∧ ∀ v1 K, f_X12_was_l24 v1 L K FU 1 0 t' = K g t' := by
    intro L
    have key : ∀ e k, k + e = m → ∀ g : Int32, (g = 0 ∨ g = 1) → ∃ g' : Int32, (g' = 0 ∨ g' = 1) ∧ (∀ v1 K f, e < f → f_X11_was_l19 v1 L K f g (I k) s' = K g' s') ∧ (∀ v1 K f, e < f → f_X12_was_l24 v1 L K f g (I k) t' = K g' t') := by
      intro e
      induction e with
      | zero =>
        intro k hk g hg
        have hk : k = m := by omega
        subst hk
        refine ⟨g, hg, fun v1 K f hf => ?_, fun v1 K f hf => ?_⟩
        · obtain ⟨f', rfl⟩ : ∃ f', f = f' + 1 := ⟨f - 1, by omega⟩
          simp only [f_X11_was_l19, f_X11_was_l19b, m2, if_pos (Int32.le_refl _)]
        · obtain ⟨f', rfl⟩ : ∃ f', f = f' + 1 := ⟨f - 1, by omega⟩
          simp only [f_X12_was_l24, f_X12_was_l24b, m3, if_pos (Int32.le_refl _)]
      | succ e ih =>
        intro k hk g hg
        have hk2 : ¬ I m ≤ I k := by rw [I_le (by omega) (by omega)]; omega
        have kk : (I k).toNatClampNeg = k := I_nat (by omega)
        have k30 : inb (I k) 30 = true := inb_t (by omega) (by omega)
        have k12 : inb (I (2 * k)) 12 = true := inb_t (by omega) (by omega)
        have k12' : inb (I (2 * k + 1)) 12 = true := inb_t (by omega) (by omega)
        have kk2 : (I (2 * k)).toNatClampNeg = 2 * k := I_nat (by omega)
        have kk3 : (I (2 * k + 1)).toNatClampNeg = 2 * k + 1 := I_nat (by omega)
        obtain ⟨n1, n2⟩ := m4 k (by omega)
        simp only [Nat.mul_zero, Nat.zero_add] at n1 n2
        have n1' : s'.1 68 (2 * k) = t'.1 143 k := n1
        have n2' : s'.1 68 (2 * k + 1) = t'.1 144 k := n2
        rcases hg with rfl | rfl
        · obtain ⟨g', q1, q2, q3⟩ := ih (k + 1) (by omega) 0 (Or.inl rfl)
          refine ⟨g', q1, fun v1 K f hf => ?_, fun v1 K f hf => ?_⟩
          · obtain ⟨f', rfl⟩ : ∃ f', f = f' + 1 := ⟨f - 1, by omega⟩
            simp only [f_X11_was_l19, f_X11_was_l19b, m2, if_neg hk2, I_2, k12, gd_t, ltb_t, if_true, I_succ, q2 v1 K f' (by omega)]
          · obtain ⟨f', rfl⟩ : ∃ f', f = f' + 1 := ⟨f - 1, by omega⟩
            simp only [f_X12_was_l24, f_X12_was_l24b, m3, if_neg hk2, ltb_t, if_true, I_succ, q3 v1 K f' (by omega)]
        · obtain ⟨x, x1, x2⟩ := r_servedBy P hp d4 (u := t'.1 143 k - 60 * L) (v := t'.1 143 k - 60 * L) (fun i _ => Iff.rfl)
          by_cases y : x = t'.1 144 k
          · obtain ⟨g', q1, q2, q3⟩ := ih (k + 1) (by omega) 1 (Or.inr rfl)
            refine ⟨g', q1, fun v1 K f hf => ?_, fun v1 K f hf => ?_⟩
            · obtain ⟨f', rfl⟩ : ∃ f', f = f' + 1 := ⟨f - 1, by omega⟩
              simp only [f_X11_was_l19, f_X11_was_l19b, m2, if_neg hk2, I_2, k12, gd_t, kk2, n1', ltb_t, if_neg one_ne, x1, bnd_t, I_succ, k12', kk3, n2', if_pos y, q2 v1 K f' (by omega)]
            · obtain ⟨f', rfl⟩ : ∃ f', f = f' + 1 := ⟨f - 1, by omega⟩
              simp only [f_X12_was_l24, f_X12_was_l24b, m3, if_neg hk2, if_neg one_ne, k30, gd_t, kk, x2, bnd_t, if_pos y, ltb_t, I_succ, q3 v1 K f' (by omega)]
          · obtain ⟨g', q1, q2, q3⟩ := ih (k + 1) (by omega) 0 (Or.inl rfl)
            refine ⟨g', q1, fun v1 K f hf => ?_, fun v1 K f hf => ?_⟩
            · obtain ⟨f', rfl⟩ : ∃ f', f = f' + 1 := ⟨f - 1, by omega⟩
              simp only [f_X11_was_l19, f_X11_was_l19b, m2, if_neg hk2, I_2, k12, gd_t, kk2, n1', ltb_t, if_neg one_ne, x1, bnd_t, I_succ, k12', kk3, n2', if_neg y, q2 v1 K f' (by omega)]
            · obtain ⟨f', rfl⟩ : ∃ f', f = f' + 1 := ⟨f - 1, by omega⟩
              simp only [f_X12_was_l24, f_X12_was_l24b, m3, if_neg hk2, if_neg one_ne, k30, gd_t, kk, x2, bnd_t, if_neg y, ltb_t, I_succ, q3 v1 K f' (by omega)]
    obtain ⟨g', q1, q2, q3⟩ := key m 0 (by omega) 1 (Or.inr rfl)
    refine ⟨g', q1, fun v1 K => ?_, fun v1 K => ?_⟩
    · have := q2 v1 K FU (FU_lt (by omega))
      rw [← I0] at this; exact this
    · have := q3 v1 K FU (FU_lt (by omega))
      rw [← I0] at this; exact this
  have outer : ∀ e k, k + e = 10 → ∀ x : Int32, ∃ y, (∀ f, e < f → f_X11_was_l8 f x (I k) s' = some (y, s')) ∧ (∀ f, e < f → f_X12_was_l13 f x (I k) t' = some (y, t')) := by
    intro e
    induction e with
    | zero =>
      intro k hk x
      have hk : k = 10 := by omega
      subst hk
      refine ⟨x, fun f hf => ?_, fun f hf => ?_⟩
      · obtain ⟨f', rfl⟩ : ∃ f', f = f' + 1 := ⟨f - 1, by omega⟩
        simp only [f_X11_was_l8, f_X11_was_l8b]
        exact if_pos (by decide)
      · obtain ⟨f', rfl⟩ : ∃ f', f = f' + 1 := ⟨f - 1, by omega⟩
        simp only [f_X12_was_l13, f_X12_was_l13b]
        exact if_pos (by decide)
    | succ e ih =>
      intro k hk x
      have h9 : ¬ (9 : Int32) < I k := by rw [show (9 : Int32) = I 9 from rfl, I_lt (by omega) (by omega)]; omega
      have h10 : ¬ (10 : Int32) ≤ I k := by rw [show (10 : Int32) = I 10 from rfl, I_le (by omega) (by omega)]; omega
      obtain ⟨g, g1, g2, g3⟩ := inner (I k)
      rcases g1 with rfl | rfl
      · obtain ⟨y, a1, a2⟩ := ih (k + 1) (by omega) x
        refine ⟨y, fun f hf => ?_, fun f hf => ?_⟩
        · obtain ⟨f', rfl⟩ : ∃ f', f = f' + 1 := ⟨f - 1, by omega⟩
          simp only [f_X11_was_l8, f_X11_was_l8b, if_neg h9, g2, if_true, ltb_t, I_succ, a1 f' (by omega)]
        · obtain ⟨f', rfl⟩ : ∃ f', f = f' + 1 := ⟨f - 1, by omega⟩
          simp only [f_X12_was_l13, f_X12_was_l13b, if_neg h10, g3, if_true, ltb_t, Int32.or_zero, I_succ, a2 f' (by omega)]
      · obtain ⟨y, a1, a2⟩ := ih (k + 1) (by omega) (x ||| ((1 : Int32) <<< (I k &&& 31)))
        refine ⟨y, fun f hf => ?_, fun f hf => ?_⟩
        · obtain ⟨f', rfl⟩ : ∃ f', f = f' + 1 := ⟨f - 1, by omega⟩
          simp only [f_X11_was_l8, f_X11_was_l8b, if_neg h9, g2, if_neg one_ne, ltb_t, I_succ, a1 f' (by omega)]
        · obtain ⟨f', rfl⟩ : ∃ f', f = f' + 1 := ⟨f - 1, by omega⟩
          simp only [f_X12_was_l13, f_X12_was_l13b, if_neg h10, g3, if_neg one_ne, ltb_t, I_succ, a2 f' (by omega)]
  obtain ⟨y, a1, a2⟩ := outer 10 0 (by omega) 0
  refine ⟨y, s', t', ?_, ?_, d5⟩
  · unfold f_X11_was
    have := a1 FU (FU_lt (by omega))
    rw [← I0] at this
    rw [d1, bnd_t, this]
  · unfold f_X12_was
    have := a2 FU (FU_lt (by omega))
    rw [← I0] at this
    rw [ltb_t, d2, bnd_t, this]
end WAS
