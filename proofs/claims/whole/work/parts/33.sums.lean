/-! Sums over what one wants -/
theorem I_3 {i k : Nat} : (3 : Int32) * I i + I k = I (3 * i + k) := by
  show I 3 * I i + I k = _
  rw [I_mul, I_add]
theorem I0 : (0 : Int32) = I 0 := by unfold I; exact Eq.refl _
theorem I0_add {y : Int32} : I 0 + y = y := Int32.zero_add y
section SUMS
variable {p c h n : Nat} {s t : HS}
theorem PL.want (P : PL p 0 c h n s t) {i : Nat} (hi : i < n) : ∃ m, 1 ≤ m ∧ m ≤ 3 ∧ s.1 (bS p i) 6 = I m ∧ t.1 118 i = I m ∧ (∀ k, k < m → ∃ w, w < h ∧ s.1 (Rf (bS p i) 5) k = I w ∧ t.1 117 (3 * i + k) = I w) ∧
    (∀ k, k < m → ∀ k', k' < m → t.1 117 (3 * i + k) = t.1 117 (3 * i + k') → k = k') ∧ s.1 (bS p i) 7 = wbits (fun k => t.1 117 (3 * i + k)) m := by
  obtain ⟨-, -, -, -, m, m1, m2, m3, m4, m5, m6, m7⟩ := P.bb hi
  simp only [Nat.mul_zero, Nat.zero_add] at m4 m5 m6 m7
  refine ⟨m, m1, m2, m3, m4, fun k hk => ?_, m6, m7⟩
  obtain ⟨w, e1, e2, e3, e4⟩ := (m5 k hk).of (by omega)
  exact ⟨w, by omega, e1, e2⟩
theorem PL.secs (P : PL p 0 c h n s t) {i : Nat} (hi : i < h) : EqB (s.1 (tS p i) 2) (t.1 109 i) 1 60 := by have := (P.tt hi).2.1; simpa using this
theorem PL.price (P : PL p 0 c h n s t) {i : Nat} (hi : i < h) : EqB (s.1 (tS p i) 3) (t.1 110 i) 1 99 := by have := (P.tt hi).2.2.1; simpa using this
theorem PL.sort (P : PL p 0 c h n s t) {i : Nat} (hi : i < h) : EqB (s.1 (tS p i) 1) (t.1 108 i) 0 2 := by have := (P.tt hi).1; simpa using this
theorem PL.cools (P : PL p 0 c h n s t) {i : Nat} (hi : i < h) : EqB (s.1 (tS p i) 5) (t.1 112 i) 0 20 := by have := (P.tt hi).2.2.2.2; simpa using this
theorem PL.kind (P : PL p 0 c h n s t) {i : Nat} (hi : i < n) : EqB (s.1 (bS p i) 1) (t.1 113 i) 0 2 := by have := (P.bb hi).1; simpa using this
theorem r_secs_l (P : PL p 0 c h n s t) {i m : Nat} (hi : i < n) (m2 : m ≤ 3) (m3 : s.1 (bS p i) 6 = I m) (m4 : t.1 118 i = I m) (m5 : ∀ k, k < m → ∃ w, w < h ∧ s.1 (Rf (bS p i) 5) k = I w ∧ t.1 117 (3 * i + k) = I w) :
    ∀ d k, k + d = m → ∃ y : Int32, (∀ b f, d < f → f_X4_secsFor_l4 p (I i) s f b (I k) = some (b + y)) ∧ (∀ b f, d < f → f_X12_secsOf_l4 (I i) t f b (I k) = some (b + y)) ∧ d ≤ y.toInt ∧ y.toInt ≤ 60 * d ∧ ∀ k', k ≤ k' → k' < m → ∀ w, w < h → t.1 117 (3 * i + k') = I w → (t.1 109 w).toInt ≤ y.toInt := by
  have hn := P.n6
  have i6 : inb (I i) 6 = true := inb_t (by omega) (by omega)
  have i12 : inb (I i) 12 = true := inb_t (by omega) (by omega)
  have ii : (I i).toNatClampNeg = i := I_nat (by omega)
  intro d
  induction d with
  | zero =>
    intro k hk
    have hkm : I m ≤ I k := by rw [I_le (by omega) (by omega)]; omega
    refine ⟨0, fun b f hf => ?_, fun b f hf => ?_, by simp, by simp, fun k' h1 h2 => by omega⟩
    · obtain ⟨f', rfl⟩ : ∃ f', f = f' + 1 := ⟨f - 1, by omega⟩
      simp only [f_X4_secsFor_l4, f_X4_secsFor_l4b, bS_f, i6, gd_t, ii, m3, if_pos hkm, Int32.add_zero]
    · obtain ⟨f', rfl⟩ : ∃ f', f = f' + 1 := ⟨f - 1, by omega⟩
      simp only [f_X12_secsOf_l4, f_X12_secsOf_l4b, i12, gd_t, ii, m4, if_pos hkm, Int32.add_zero]
  | succ d ih =>
    intro k hk
    obtain ⟨y, h1, h2, h3, h4, h5⟩ := ih (k + 1) (by omega)
    obtain ⟨w, w1, w2, w3⟩ := m5 k (by omega)
    obtain ⟨q1, q2, q3⟩ := P.secs w1
    have hkm : ¬ I m ≤ I k := by rw [I_le (by omega) (by omega)]; omega
    have kk : (I k).toNatClampNeg = k := I_nat (by omega)
    have k3 : inb (I k) 3 = true := inb_t (by omega) (by omega)
    have ww : (I w).toNatClampNeg = w := I_nat (by omega)
    have w5 : inb (I w) 5 = true := inb_t (by omega) (by omega)
    have w10 : inb (I w) 10 = true := inb_t (by omega) (by omega)
    have k36 : inb (I (3 * i + k)) 36 = true := inb_t (by omega) (by omega)
    have kk2 : (I (3 * i + k)).toNatClampNeg = 3 * i + k := I_nat (by omega)
    have hy : (t.1 109 w + y).toInt = (t.1 109 w).toInt + y.toInt := ti_add (by omega) (by omega)
    refine ⟨t.1 109 w + y, fun b f hf => ?_, fun b f hf => ?_, by omega, by omega, fun k' g1 g2 w' g3 g4 => ?_⟩
    rotate_left 2
    · by_cases z : k' = k
      · subst z
        rw [w3] at g4
        have := (I_inj (by omega) (by omega)).mp g4
        subst this
        omega
      · have := h5 k' (by omega) g2 w' g3 g4
        omega
    · obtain ⟨f', rfl⟩ : ∃ f', f = f' + 1 := ⟨f - 1, by omega⟩
      simp only [f_X4_secsFor_l4, f_X4_secsFor_l4b, bS_f, tS_f, i6, gd_t, ii, m3, if_neg hkm, k3, kk, w2, w5, ww, q1, ltb_t, I_succ]
      rw [h1 _ f' (by omega), Int32.add_assoc]
    · obtain ⟨f', rfl⟩ : ∃ f', f = f' + 1 := ⟨f - 1, by omega⟩
      simp only [f_X12_secsOf_l4, f_X12_secsOf_l4b, i12, gd_t, ii, m4, if_neg hkm, I_3, k36, kk2, w3, w10, ww, ltb_t, I_succ]
      rw [h2 _ f' (by omega), Int32.add_assoc]
theorem r_secs (P : PL p 0 c h n s t) {i : Nat} (hi : i < n) : ∃ y : Int32, f_X4_secsFor p (I i) s = some y ∧ f_X12_secsOf (I i) t = some y ∧ 1 ≤ y.toInt ∧ y.toInt ≤ 180 ∧ ∀ m, t.1 118 i = I m → m ≤ 3 → ∀ k, k < m → ∀ w, w < h → t.1 117 (3 * i + k) = I w → (t.1 109 w).toInt ≤ y.toInt := by
  obtain ⟨m, m1, m2, m3, m4, m5, -, -⟩ := P.want hi
  obtain ⟨y, h1, h2, h3, h4, h5⟩ := r_secs_l P hi m2 m3 m4 m5 m 0 (by omega)
  refine ⟨y, ?_, ?_, by omega, by omega, fun m' e1 e2 k hk w hw e3 => ?_⟩
  rotate_left 2
  · rw [m4] at e1
    have := (I_inj (by omega) (by omega)).mp e1
    exact h5 k (by omega) (by omega) w hw e3
  · unfold f_X4_secsFor
    rw [I0, h1 (I 0) FU (FU_lt (by omega)), I0_add]
  · unfold f_X12_secsOf
    rw [I0, h2 (I 0) FU (FU_lt (by omega)), I0_add]
theorem r_price_l (P : PL p 0 c h n s t) {i m : Nat} (hi : i < n) (m2 : m ≤ 3) (m3 : s.1 (bS p i) 6 = I m) (m4 : t.1 118 i = I m) (m5 : ∀ k, k < m → ∃ w, w < h ∧ s.1 (Rf (bS p i) 5) k = I w ∧ t.1 117 (3 * i + k) = I w) :
    ∀ d k, k + d = m → ∃ y : Int32, (∀ b f, d < f → f_X4_priceFor_l4 p (I i) s f b (I k) = some (b + y)) ∧ (∀ t' : HS, t'.1 110 = t.1 110 → t'.1 117 = t.1 117 → t'.1 118 = t.1 118 → inb (I i) 6 = true → ¬ t'.1 151 i < 0 → ∀ K b f, d < f → f_X12_pence_l16 (I i) K t' f b (I k) = K (b + y)) ∧ d ≤ y.toInt ∧ y.toInt ≤ 99 * d := by
  have hn := P.n6
  have i6 : inb (I i) 6 = true := inb_t (by omega) (by omega)
  have i12 : inb (I i) 12 = true := inb_t (by omega) (by omega)
  have ii : (I i).toNatClampNeg = i := I_nat (by omega)
  intro d
  induction d with
  | zero =>
    intro k hk
    have hkm : I m ≤ I k := by rw [I_le (by omega) (by omega)]; omega
    refine ⟨0, fun b f hf => ?_, fun t' e1 e2 e3 e4 e5 K b f hf => ?_, by simp, by simp⟩
    · obtain ⟨f', rfl⟩ : ∃ f', f = f' + 1 := ⟨f - 1, by omega⟩
      simp only [f_X4_priceFor_l4, f_X4_priceFor_l4b, bS_f, i6, gd_t, ii, m3, if_pos hkm, Int32.add_zero]
    · obtain ⟨f', rfl⟩ : ∃ f', f = f' + 1 := ⟨f - 1, by omega⟩
      simp only [f_X12_pence_l16, f_X12_pence_l16b, i12, gd_t, ii, e3, m4, if_pos hkm, Int32.add_zero]
  | succ d ih =>
    intro k hk
    obtain ⟨y, h1, h2, h3, h4⟩ := ih (k + 1) (by omega)
    obtain ⟨w, w1, w2, w3⟩ := m5 k (by omega)
    obtain ⟨q1, q2, q3⟩ := P.price w1
    have hkm : ¬ I m ≤ I k := by rw [I_le (by omega) (by omega)]; omega
    have kk : (I k).toNatClampNeg = k := I_nat (by omega)
    have k3 : inb (I k) 3 = true := inb_t (by omega) (by omega)
    have ww : (I w).toNatClampNeg = w := I_nat (by omega)
    have w5 : inb (I w) 5 = true := inb_t (by omega) (by omega)
    have w10 : inb (I w) 10 = true := inb_t (by omega) (by omega)
    have k36 : inb (I (3 * i + k)) 36 = true := inb_t (by omega) (by omega)
    have kk2 : (I (3 * i + k)).toNatClampNeg = 3 * i + k := I_nat (by omega)
    have hy : (t.1 110 w + y).toInt = (t.1 110 w).toInt + y.toInt := ti_add (by omega) (by omega)
    refine ⟨t.1 110 w + y, fun b f hf => ?_, fun t' e1 e2 e3 e4 e5 K b f hf => ?_, by omega, by omega⟩
    · obtain ⟨f', rfl⟩ : ∃ f', f = f' + 1 := ⟨f - 1, by omega⟩
      simp only [f_X4_priceFor_l4, f_X4_priceFor_l4b, bS_f, tS_f, i6, gd_t, ii, m3, if_neg hkm, k3, kk, w2, w5, ww, q1, ltb_t, I_succ]
      rw [h1 _ f' (by omega), Int32.add_assoc]
    · obtain ⟨f', rfl⟩ : ∃ f', f = f' + 1 := ⟨f - 1, by omega⟩
      simp only [f_X12_pence_l16, f_X12_pence_l16b, i6, i12, gd_t, ii, e1, e2, e3, m4, if_neg hkm, if_neg e5, I_3, k36, kk2, w3, w10, ww, ltb_t, I_succ]
      rw [h2 t' e1 e2 e3 e4 e5 K _ f' (by omega), Int32.add_assoc]
theorem r_price (P : PL p 0 c h n s t) {i : Nat} (hi : i < n) : ∃ y : Int32, f_X4_priceFor p (I i) s = some y ∧ (∀ t' : HS, t'.1 110 = t.1 110 → t'.1 117 = t.1 117 → t'.1 118 = t.1 118 → ¬ t'.1 151 i < 0 → ∀ K b, f_X12_pence_l16 (I i) K t' FU b 0 = K (b + y)) ∧ 1 ≤ y.toInt ∧ y.toInt ≤ 297 := by
  obtain ⟨m, m1, m2, m3, m4, m5, -, -⟩ := P.want hi
  obtain ⟨y, h1, h2, h3, h4⟩ := r_price_l P hi m2 m3 m4 m5 m 0 (by omega)
  have hn := P.n6
  refine ⟨y, ?_, fun t' e1 e2 e3 e5 K b => ?_, by omega, by omega⟩
  · unfold f_X4_priceFor
    rw [I0, h1 (I 0) FU (FU_lt (by omega)), I0_add]
  · rw [I0, h2 t' e1 e2 e3 (inb_t (by omega) (by omega)) e5 K b FU (FU_lt (by omega))]
/-- nothing is paid by who never was served -/
theorem r_price0 (P : PL p 0 c h n s t) {i : Nat} (hi : i < n) {t' : HS} (e3 : t'.1 118 = t.1 118) (e5 : t'.1 151 i < 0) (K : Int32 → Option Int32) (b : Int32) : f_X12_pence_l16 (I i) K t' FU b 0 = K b := by
  obtain ⟨m, m1, m2, m3, m4, -⟩ := P.want hi
  have hn := P.n6
  have i6 : inb (I i) 6 = true := inb_t (by omega) (by omega)
  have i12 : inb (I i) 12 = true := inb_t (by omega) (by omega)
  have ii : (I i).toNatClampNeg = i := I_nat (by omega)
  have hm : ¬ I m ≤ I 0 := by rw [I_le (by omega) (by omega)]; omega
  obtain ⟨f, hf⟩ := FU_s
  rw [hf]
  simp only [f_X12_pence_l16, f_X12_pence_l16b, i6, i12, gd_t, ii, e3, m4, I0, if_neg hm, if_pos (show t'.1 151 i < I 0 from e5)]
end SUMS
