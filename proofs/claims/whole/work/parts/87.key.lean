/-! The word of the rules that a key is -/
def kwl (key : Int64) : Nat → Nat → Nat → Nat
  | _, 0, w => w
  | k, e + 1, w => kwl key (k + 1) e (if lg_cmp (keyL.getD k 0) key = 0 then 1000 + k else w)
theorem r_key (key : Int64) : ∀ e k, k + e = 37 → ∀ s : HS, s.2.1 36 5 = key → ∀ f, e < f → f_X8_stepWord_l107 f (I k) s = some (sQ5 s (kwl key k e s.2.2.2.2.2.2)) := by
  intro e
  induction e with
  | zero =>
    intro k hk s hs f hf
    have hk : k = 37 := by omega
    subst hk
    obtain ⟨f', rfl⟩ : ∃ f', f = f' + 1 := ⟨f - 1, by omega⟩
    simp only [f_X8_stepWord_l107, f_X8_stepWord_l107b]
    rw [if_pos (by decide)]
    rfl
  | succ e ih =>
    intro k hk s hs f hf
    have n37 : ¬ (37 : Int32) ≤ I k := by rw [show (37 : Int32) = I 37 from litI 37, I_le (by omega) (by omega)]; omega
    have i37 : inb (I k) 37 = true := inb_t (by omega) (by omega)
    have kk : (I k).toNatClampNeg = k := I_nat (by omega)
    have wo : woc (1000 + k) = true := by unfold woc; simp; omega
    obtain ⟨f', rfl⟩ : ∃ f', f = f' + 1 := ⟨f - 1, by omega⟩
    simp only [f_X8_stepWord_l107, f_X8_stepWord_l107b, if_neg n37, i37, gd_t, kk, wo, hs, Nat.add_sub_cancel_left, ltb_t, I_succ]
    by_cases z : lg_cmp (keyL.getD k 0) key = 0
    · rw [if_pos z, ih (k + 1) (by omega) (sQ5 s (1000 + k)) hs f' (by omega)]
      show some (sQ5 (sQ5 s (1000 + k)) (kwl key (k + 1) e (1000 + k))) = some (sQ5 s (kwl key (k + 1) e (if lg_cmp (keyL.getD k 0) key = 0 then 1000 + k else s.2.2.2.2.2.2)))
      rw [if_pos z]
      rfl
    · rw [if_neg z, ih (k + 1) (by omega) s hs f' (by omega)]
      show some (sQ5 s (kwl key (k + 1) e s.2.2.2.2.2.2)) = some (sQ5 s (kwl key (k + 1) e (if lg_cmp (keyL.getD k 0) key = 0 then 1000 + k else s.2.2.2.2.2.2)))
      rw [if_neg z]
