/-! What is poured back -/
theorem and1 (v : Int32) : v &&& 1 = 0 ∨ v &&& 1 = 1 := by
  have h : (v &&& 1).toBitVec = v.toBitVec &&& 1#32 := rfl
  rw [BitVec.and_one_eq_setWidth_ofBool_getLsbD] at h
  cases q : v.toBitVec.getLsbD 0 with
  | false => exact Or.inl (Int32.toBitVec_inj.mp (by rw [h, q]; decide))
  | true => exact Or.inr (Int32.toBitVec_inj.mp (by rw [h, q]; decide))
theorem and1_n0 {v : Int32} (h : ¬ v &&& 1 = 0) : v &&& 1 = 1 := (and1 v).resolve_left h
theorem one_ne : ¬ (1 : Int32) = 0 := by decide
theorem sum2k (F G : (Int32 → Option Int32) → Nat → Int32 → Int32 → Option Int32) (n : Nat) (hn : n < 100) (hs : ∀ k, k < n → ∃ y : Int32, (∀ K f a, F K (f + 1) a (I k) = F K f (a + y) (I (k + 1))) ∧ (∀ K f a, G K (f + 1) a (I k) = G K f (a + y) (I (k + 1))))
    (e1 : ∀ K f a, F K (f + 1) a (I n) = K a) (e2 : ∀ K f a, G K (f + 1) a (I n) = K a) : ∃ y, (∀ K a, F K FU a 0 = K (a + y)) ∧ (∀ K a, G K FU a 0 = K (a + y)) := by
  have key : ∀ d k, k + d = n → ∃ y : Int32, (∀ K f a, d < f → F K f a (I k) = K (a + y)) ∧ (∀ K f a, d < f → G K f a (I k) = K (a + y)) := by
    intro d
    induction d with
    | zero =>
      intro k hk
      have hk : k = n := by omega
      subst hk
      refine ⟨0, fun K f a hf => ?_, fun K f a hf => ?_⟩
      · obtain ⟨f', rfl⟩ : ∃ f', f = f' + 1 := ⟨f - 1, by omega⟩
        rw [e1, Int32.add_zero]
      · obtain ⟨f', rfl⟩ : ∃ f', f = f' + 1 := ⟨f - 1, by omega⟩
        rw [e2, Int32.add_zero]
    | succ d ih =>
      intro k hk
      obtain ⟨y, h1, h2⟩ := ih (k + 1) (by omega)
      obtain ⟨z, g1, g2⟩ := hs k (by omega)
      refine ⟨z + y, fun K f a hf => ?_, fun K f a hf => ?_⟩
      · obtain ⟨f', rfl⟩ : ∃ f', f = f' + 1 := ⟨f - 1, by omega⟩
        rw [g1, h1 _ _ _ (by omega), Int32.add_assoc]
      · obtain ⟨f', rfl⟩ : ∃ f', f = f' + 1 := ⟨f - 1, by omega⟩
        rw [g2, h2 _ _ _ (by omega), Int32.add_assoc]
  obtain ⟨y, h1, h2⟩ := key n 0 (by omega)
  refine ⟨y, fun K a => ?_, fun K a => ?_⟩
  · have := h1 K FU a (FU_lt (by omega))
    rw [← I0] at this; exact this
  · have := h2 K FU a (FU_lt (by omega))
    rw [← I0] at this; exact this
section HALVES
variable {p c h n : Nat} {s t : HS}
theorem r_halves (P : PL p 0 c h n s t) (hp : s.2.2.2.2.1 = p) (R : RS n s t) : ∃ x, f_X6_pouredBack s = some x ∧ f_X12_halves t = some x := by
  have hn := P.n6
  refine sum2 (f_X6_pouredBack_l4 s) (f_X12_halves_l4 t) n (by omega) (fun i hi => ?_) (fun f a => ?_) (fun f a => ?_)
  · obtain ⟨-, ⟨d1, d2, d3⟩, -⟩ := R.2.1 i hi
    have hi2 : ¬ I n ≤ I i := by rw [I_le (by omega) (by omega)]; omega
    have ii : (I i).toNatClampNeg = i := I_nat (by omega)
    have i6 : inb (I i) 6 = true := inb_t (by omega) (by omega)
    obtain ⟨y, h1, h2⟩ := sum2k (fun K => f_X6_pouredBack_l17 (I i) K s) (fun K => f_X12_halves_l16 (I i) K t) h (by omega) (fun k hk => by
      have hk2 : ¬ I h ≤ I k := by rw [I_le (by omega) (by omega)]; omega
      have kk : (I k).toNatClampNeg = k := I_nat (by omega)
      have k5 : inb (I k) 5 = true := inb_t (by omega) (by omega)
      have k10 : inb (I k) 10 = true := inb_t (by omega) (by omega)
      obtain ⟨s1, -, -⟩ := P.sort hk
      obtain ⟨p1, -, -⟩ := P.price hk
      rcases and1 ((t.1 153 i) >>> (I k &&& 31)) with q | q
      · have q2 : ¬ ((t.1 153 i) >>> (I k &&& 31)) &&& 1 = 1 := by rw [q]; decide
        refine ⟨0, fun K f a => ?_, fun K f a => ?_⟩
        · simp only [f_X6_pouredBack_l17, f_X6_pouredBack_l17b, hp, P.1, gd_t, P.hc, if_neg hk2, i6, ii, d1, if_pos q, ltb_t, I_succ, Int32.add_zero]
        · simp only [f_X12_halves_l16, f_X12_halves_l16b, P.hm, if_neg hk2, gd_t, i6, ii, if_neg q2, ltb_t, I_succ]
      · have q2 : ¬ ((t.1 153 i) >>> (I k &&& 31)) &&& 1 = 0 := by rw [q]; decide
        by_cases q3 : t.1 108 k = 2
        · refine ⟨0, fun K f a => ?_, fun K f a => ?_⟩
          · simp only [f_X6_pouredBack_l17, f_X6_pouredBack_l17b, hp, P.1, gd_t, P.hc, if_neg hk2, i6, ii, d1, if_neg q2, k5, kk, tS_f, s1, if_pos q3, ltb_t, I_succ, Int32.add_zero]
          · simp only [f_X12_halves_l16, f_X12_halves_l16b, P.hm, if_neg hk2, gd_t, i6, ii, if_pos q, k10, kk, if_pos q3, ltb_t, I_succ]
        · refine ⟨t.1 110 k / 2, fun K f a => ?_, fun K f a => ?_⟩
          · simp only [f_X6_pouredBack_l17, f_X6_pouredBack_l17b, hp, P.1, gd_t, P.hc, if_neg hk2, i6, ii, d1, if_neg q2, k5, kk, tS_f, s1, if_neg q3, p1, ltb_t, I_succ]
          · simp only [f_X12_halves_l16, f_X12_halves_l16b, P.hm, if_neg hk2, gd_t, i6, ii, if_pos q, k10, kk, if_neg q3, ltb_t, I_succ])
      (fun K f a => by simp only [f_X6_pouredBack_l17, f_X6_pouredBack_l17b, hp, P.1, gd_t, P.hc, if_pos (Int32.le_refl _)])
      (fun K f a => by simp only [f_X12_halves_l16, f_X12_halves_l16b, P.hm, if_pos (Int32.le_refl _)])
    refine ⟨y, fun f a => ?_, fun f a => ?_⟩
    · simp only [f_X6_pouredBack_l4, f_X6_pouredBack_l4b, hp, P.1, gd_t, P.nc, if_neg hi2, ltb_t, I_succ, h1]
    · simp only [f_X12_halves_l4, f_X12_halves_l4b, P.nm, if_neg hi2, ltb_t, I_succ, h2]
  · simp only [f_X6_pouredBack_l4, f_X6_pouredBack_l4b, hp, P.1, gd_t, P.nc, if_pos (Int32.le_refl _)]
  · simp only [f_X12_halves_l4, f_X12_halves_l4b, P.nm, if_pos (Int32.le_refl _)]
end HALVES
