/-! Which characters are signs -/
theorem ix_l (x4 : Int32) (s : HS) : ∀ e k, k + e = 8 → ∃ r, (∀ f, e < f → f_J1_indexOfChar_4cfef_l7 8 x4 s f (I k) = some r) ∧ (r < 0 ↔ ∀ j, k ≤ j → j < 8 → ¬ sgnL.getD j 0 = x4) := by
  intro e
  induction e with
  | zero =>
    intro k hk
    have hk : k = 8 := by omega
    subst hk
    refine ⟨-1, fun f hf => ?_, ⟨fun _ j h1 h2 => absurd h2 (by omega), fun _ => by decide⟩⟩
    obtain ⟨f', rfl⟩ : ∃ f', f = f' + 1 := ⟨f - 1, by omega⟩
    simp only [f_J1_indexOfChar_4cfef_l7, f_J1_indexOfChar_4cfef_l7b]
    exact if_pos (by decide)
  | succ e ih =>
    intro k hk
    obtain ⟨r, r1, r2⟩ := ih (k + 1) (by omega)
    have n8 : ¬ (8 : Int32) ≤ I k := by rw [show (8 : Int32) = I 8 from litI 8, I_le (by omega) (by omega)]; omega
    have i8 : inb (I k) 8 = true := inb_t (by omega) (by omega)
    have kk : (I k).toNatClampNeg = k := I_nat (by omega)
    by_cases z : sgnL.getD k 0 = x4
    · refine ⟨I k, fun f hf => ?_, ⟨fun q => ?_, fun q => absurd z (q k (Nat.le_refl _) (by omega))⟩⟩
      · obtain ⟨f', rfl⟩ : ∃ f', f = f' + 1 := ⟨f - 1, by omega⟩
        simp only [f_J1_indexOfChar_4cfef_l7, f_J1_indexOfChar_4cfef_l7b, if_neg n8, i8, gd_t, kk, if_pos z]
      · rw [I0, I_lt (by omega) (by omega)] at q; omega
    · refine ⟨r, fun f hf => ?_, ⟨fun q j h1 h2 => ?_, fun q => r2.mpr (fun j h1 h2 => q j (by omega) h2)⟩⟩
      · obtain ⟨f', rfl⟩ : ∃ f', f = f' + 1 := ⟨f - 1, by omega⟩
        simp only [f_J1_indexOfChar_4cfef_l7, f_J1_indexOfChar_4cfef_l7b, if_neg n8, i8, gd_t, kk, if_neg z, ltb_t, I_succ, r1 f' (by omega)]
      · by_cases y : j = k
        · subst y; exact z
        · exact r2.mp q j (by omega) h2
theorem ix_8 : ∀ c, c < 127 → (I c).toInt8.toInt32 = I c ∧ ¬ I c < 0 ∧ ¬ 255 < I c ∧ ((∀ j, j < 8 → ¬ sgnL.getD j 0 = I c) ↔ ¬ ((40 ≤ c ∧ c ≤ 43) ∨ c = 45 ∨ (59 ≤ c ∧ c ≤ 61))) := by decide +kernel
theorem ix_e {c : Nat} (hc : c < 127) (s : HS) : ∃ r, f_J0_indexOf_0f7a4 (I c) s = some r ∧ (r < 0 ↔ ¬ ((40 ≤ c ∧ c ≤ 43) ∨ c = 45 ∨ (59 ≤ c ∧ c ≤ 61))) := by
  obtain ⟨e1, e2, e3, e4⟩ := ix_8 c hc
  obtain ⟨r, r1, r2⟩ := ix_l (I c) s 8 0 (by omega)
  have r1 := r1 FU (FU_lt (by omega))
  rw [I_e0] at r1
  refine ⟨r, ?_, r2.trans ((show (∀ j, 0 ≤ j → j < 8 → ¬ sgnL.getD j 0 = I c) ↔ _ from ⟨fun q j h => q j (Nat.zero_le _) h, fun q j _ h => q j h⟩).trans e4)⟩
  have len : f_J0_length_8abf5 s = 8 := by unfold f_J0_length_8abf5 f_J0_coder_7d493; decide
  have lat : ¬ f_J0_isLatin1_aae02 s = 0 := by unfold f_J0_isLatin1_aae02; decide
  have can : ¬ f_J1_canEncode_9a6ad (I c) s = 0 := by unfold f_J1_canEncode_9a6ad; rw [if_neg e2, if_neg e3]; decide
  have mx : imax 0 0 = 0 := by decide
  have mn : imin 8 8 = 8 := by decide
  unfold f_J0_indexOf_0f7a4 f_J0_indexOf_7cf53 f_J1_indexOf_4cfef f_J1_indexOfChar_4cfef
  rw [if_neg lat, len, if_neg can, mx, ltb_t, mn, ltb_t, if_pos (by decide), e1, ltb_t, r1, bnd_t, bnd_t, bnd_t]
