section JUNC2
variable {p d c h n : Nat} {s t : HS}
theorem c_marks (v1 : Int32) : ∀ e k, k + e = 4 → ∀ s, ∃ s', (∀ f, e < f → f_X11_junction_l59 v1 f (I k) s = some (v1, s')) ∧ (∀ o j, (∀ i, i < 4 → o ≠ mS i ∨ j ≠ 11) → s'.1 o j = s.1 o j) ∧ (∀ i, i < 4 → (k ≤ i → s'.1 (mS i) 11 = 0) ∧ (i < k → s'.1 (mS i) 11 = s.1 (mS i) 11)) ∧ s'.2 = s.2 := by
  have rm : ∀ i, i < 4 → Rf 33 i = mS i := by decide
  intro e
  induction e with
  | zero =>
    intro k hk s
    obtain rfl : k = 4 := by omega
    refine ⟨s, fun f hf => ?_, fun _ _ _ => rfl, fun i hi => ⟨fun q => absurd q (by omega), fun _ => rfl⟩, rfl⟩
    obtain ⟨f', rfl⟩ : ∃ f', f = f' + 1 := ⟨f - 1, by omega⟩
    show f_X11_junction_l59b v1 (I 4) _ s = _
    unfold f_X11_junction_l59b
    rw [if_pos (by decide)]
  | succ e ih =>
    intro k hk s
    obtain ⟨s', a1, a2, a3, a4⟩ := ih (k + 1) (by omega) (sI s (mS k) 11 0)
    have inj : ∀ i, mS i = mS k → i = k := fun i q => by unfold mS at q; omega
    refine ⟨s', fun f hf => ?_, fun o j hj => ?_, fun i hi => ⟨fun q => ?_, fun q => ?_⟩, a4⟩
    · obtain ⟨f', rfl⟩ : ∃ f', f = f' + 1 := ⟨f - 1, by omega⟩
      show f_X11_junction_l59b v1 (I k) _ s = _
      unfold f_X11_junction_l59b
      rw [if_neg (by rw [show (4 : Int32) = I 4 from litI 4, I_le (by omega) (by omega)]; omega), inb_t (by omega) (by omega), gd_t, I_nat (by omega), rm k (by omega), ltb_t, ltb_t, I_p1]
      exact a1 f' (by omega)
    · rw [a2 o j hj, sI_at]
      by_cases y : o = mS k
      · rw [if_pos y, if_neg ((hj k (by omega)).resolve_left (fun w => w y)), y]
      · rw [if_neg y]
    · by_cases y : i = k
      · subst y
        rw [(a3 i hi).2 (by omega), sI_k]
      · exact (a3 i hi).1 (by omega)
    · rw [(a3 i hi).2 (by omega), sI_o _ _ _ _ (fun w => by have := inj i w; omega)]
theorem m_marks : ∀ e k, k + e = 4 → ∀ t, ∃ t', (∀ f, e < f → f_X12_junction_l53 f (I k) t = some (0, t')) ∧ (∀ o j, (o ≠ 149 ∨ 4 ≤ j) → t'.1 o j = t.1 o j) ∧ (∀ i, i < 4 → (k ≤ i → t'.1 149 i = 0) ∧ (i < k → t'.1 149 i = t.1 149 i)) ∧ t'.2 = t.2 := by
  intro e
  induction e with
  | zero =>
    intro k hk t
    obtain rfl : k = 4 := by omega
    refine ⟨t, fun f hf => ?_, fun _ _ _ => rfl, fun i hi => ⟨fun q => absurd q (by omega), fun _ => rfl⟩, rfl⟩
    obtain ⟨f', rfl⟩ : ∃ f', f = f' + 1 := ⟨f - 1, by omega⟩
    show f_X12_junction_l53b (I 4) _ t = _
    unfold f_X12_junction_l53b
    rw [if_pos (by decide)]
  | succ e ih =>
    intro k hk t
    obtain ⟨t', a1, a2, a3, a4⟩ := ih (k + 1) (by omega) (sI t 149 k 0)
    refine ⟨t', fun f hf => ?_, fun o j hj => ?_, fun i hi => ⟨fun q => ?_, fun q => ?_⟩, a4⟩
    · obtain ⟨f', rfl⟩ : ∃ f', f = f' + 1 := ⟨f - 1, by omega⟩
      show f_X12_junction_l53b (I k) _ t = _
      unfold f_X12_junction_l53b
      rw [if_neg (by rw [show (4 : Int32) = I 4 from litI 4, I_le (by omega) (by omega)]; omega), inb_t (by omega) (by omega), gd_t, I_nat (by omega), nar0, ltb_t, ltb_t, I_p1]
      exact a1 f' (by omega)
    · rw [a2 o j hj, sI_at]
      by_cases y : o = 149
      · rw [if_pos y, if_neg (by omega), y]
      · rw [if_neg y]
    · by_cases y : i = k
      · subst y
        rw [(a3 i hi).2 (by omega), sI_k]
      · exact (a3 i hi).1 (by omega)
    · rw [(a3 i hi).2 (by omega), sI_s, if_neg (by omega)]
theorem av1_d (hp : okX4 p = true) (hd : okX4 d = true) (ne : d ≠ p) : av1 p (LPd d) = true ∧ avJ (LPd d) = true ∧ av1 d [(64, 0), (65, 0)] = true ∧ av1 d [(64, 0), (65, 0), (1, 11), (81, 12), (86, 12), (91, 12), (96, 12)] = true := by
  rcases okX4_c hp with rfl | rfl <;> rcases okX4_c hd with rfl | rfl
  · exact absurd rfl ne
  · decide +kernel
  · decide +kernel
  · exact absurd rfl ne
/-- the order in force: none, or the one told -/
theorem OR_of (hd : okX4 d = true) {m : Nat} {u t2 s' t' : HS} (O : ORDq d m u t2) (e : ∀ k, s'.1 (d + 2) k = u.1 (d + 2) k ∧ s'.1 (d + 3) k = u.1 (d + 3) k) (g0 : t'.1 120 0 = t2.1 120 1 - 1000) (g1 : t'.1 121 0 = t2.1 121 1 - 1000) (g2 : ∀ k, k < 1000 → t'.1 122 k = t2.1 122 (1000 + k)) : OR d s' t' := by
  obtain ⟨o0, o1⟩ := O
  have z0 : t'.1 120 0 = 0 := by rw [g0, o0]; decide
  rcases o1 with ⟨-, k2, k3, k4⟩ | ⟨-, C, R, E, k2, k3, k4, k5, k6, k7, k8⟩
  · refine ⟨fun _ _ _ _ => 0, ?_, ?_, ?_⟩
    · intro w a b c dd f1 f2
      obtain ⟨q1, q2, -⟩ := qS_e hd
      rw [q1] at f1 ⊢
      refine ⟨w, ?_⟩
      have e0 : w.1 (d + 2) 1 = 0 := by rw [f1, (e 1).1]; exact k4
      unfold f_X2_value
      show f_X2_value_l6b (d + 2) a b c dd 0 0 _ _ w = _
      unfold f_X2_value_l6b
      rw [e0, if_pos (by decide)]
      exact if_pos (by decide)
    · intro ne
      exact absurd (by rw [g1, k2, z0]; decide) ne
    · intro _ _ _ _ _; rfl
  · have cc : CCs d C s' := k5.cg (funext fun k => (e k).1) (funext fun k => (e k).2)
    exact ⟨_, OCv_of hd k2 cc k3, OMv_of k2 z0 (by rw [g1, k6, show (1000 : Int32) = I 1000 from litI 1000, I_sub (by omega), Nat.add_sub_cancel_left]) (fun i hi => by rw [g2 i (by omega)]; exact k8 i hi) k4⟩
end JUNC2
