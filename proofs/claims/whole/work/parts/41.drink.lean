/-! Drinking: the class in closed form, the reference second by second -/
theorem t60 : (60 : Int32).toInt = 60 := by decide
theorem t1 : (1 : Int32).toInt = 1 := by decide
theorem imax_t {x y : Int32} : (imax x y).toInt = max x.toInt y.toInt := by
  unfold imax
  by_cases z : x < y
  · rw [if_pos z]; rw [Int32.lt_iff_toInt_lt] at z; omega
  · rw [if_neg z]; rw [Int32.lt_iff_toInt_lt] at z; omega
theorem div_t {x y : Int32} (h : 0 ≤ x.toInt) (hy : 0 < y.toInt) : (x / y).toInt = x.toInt / y.toInt := by
  rw [Int32.toInt_div_of_ne_right _ _ (by rintro rfl; have : (-1 : Int32).toInt = -1 := by decide
                                          omega), Int.tdiv_eq_ediv_of_nonneg h]
/-- how hot it is -/
theorem heat_t {H C x : Int32} (h1 : 0 ≤ H.toInt ∧ H.toInt ≤ 99) (h2 : 0 ≤ C.toInt ∧ C.toInt ≤ 20) (h3 : 0 ≤ x.toInt ∧ x.toInt ≤ 1100) : (imax 0 (H - C * x / 60)).toInt = max 0 (H.toInt - C.toInt * x.toInt / 60) := by
  have a1 := Int.mul_le_mul h2.2 h3.2 h3.1 (by omega)
  have a2 := Int.mul_nonneg h2.1 h3.1
  have e1 : (C * x).toInt = C.toInt * x.toInt := ti_mul (by omega) (by omega)
  have e2 : (C * x / 60).toInt = C.toInt * x.toInt / 60 := by rw [div_t (by omega) (by rw [t60]; omega), e1, t60]
  rw [imax_t, Int32.toInt_zero, ti_sub (by omega) (by omega), e2]
/-- behind how many seconds it can be drunk -/
def CW (srt H L C : Int) : Int := if srt = 2 ∨ H ≤ L then 0 else if C ≤ 0 then 1000000 else (60 * (H - L) + C - 1) / C
theorem CW_b {srt H L C : Int} (h1 : 0 ≤ H ∧ H ≤ 99) (h2 : 0 ≤ L) : 0 ≤ CW srt H L C ∧ CW srt H L C ≤ 1000000 := by
  unfold CW
  split
  · omega
  · rename_i z
    split
    · omega
    · rename_i y
      refine ⟨Int.ediv_nonneg (by omega) (by omega), ?_⟩
      have : (60 * (H - L) + C - 1) / C ≤ 60 * (H - L) + C - 1 := Int.ediv_le_self _ (by omega)
      have : (60 * (H - L) + C - 1) / C ≤ 60 * (H - L) := by
        have e : 60 * (H - L) + C - 1 = (60 * (H - L) - 1) + 1 * C := by omega
        rw [e, Int.add_mul_ediv_right _ _ (by omega)]
        have := Int.ediv_le_self C (show 0 ≤ 60 * (H - L) - 1 by omega)
        omega
      omega
/-- no hotter than lips: from then on -/
theorem CW_iff {srt H L C S : Int} (h1 : 0 ≤ H ∧ H ≤ 99) (h2 : 0 ≤ L) (h3 : 0 ≤ C ∧ C ≤ 20) (hS : 0 ≤ S ∧ S < 1000000) : (srt = 2 ∨ max 0 (H - C * S / 60) ≤ L) ↔ CW srt H L C ≤ S := by
  unfold CW
  by_cases z : srt = 2 ∨ H ≤ L
  · rw [if_pos z]
    constructor
    · intro; omega
    · intro _
      refine z.imp_right (fun z => ?_)
      have := Int.mul_nonneg h3.1 hS.1
      have := Int.ediv_nonneg this (show (0 : Int) ≤ 60 by omega)
      omega
  · rw [if_neg z]
    by_cases y : C ≤ 0
    · have : C = 0 := by omega
      subst this
      rw [if_pos y]
      simp only [Int.zero_mul, Int.zero_ediv]
      omega
    · rw [if_neg y]
      have hc : 0 < C := by omega
      constructor
      · intro w
        have w := w.resolve_left (fun q => z (Or.inl q))
        have w2 : H - L ≤ C * S / 60 := by omega
        have w3 : (H - L) * 60 ≤ C * S := (Int.le_ediv_iff_mul_le (by omega)).mp w2
        apply Int.le_of_lt_add_one
        rw [Int.ediv_lt_iff_lt_mul hc]
        rw [Int.add_mul, Int.mul_comm S C]
        omega
      · intro w
        refine Or.inr ?_
        have w2 := Int.lt_add_one_of_le w
        rw [Int.ediv_lt_iff_lt_mul hc, Int.add_mul, Int.mul_comm S C] at w2
        have w3 : H - L ≤ C * S / 60 := (Int.le_ediv_iff_mul_le (by omega)).mpr (by omega)
        omega
section DRINK
variable {p a c h n : Nat} {s t : HS}
theorem r_cools (S : SR p a c h n s t) {w : Nat} (hw : w < h) : ∃ x : Int32, f_X6_coolsWithin (I w) s = some x ∧ x.toInt = CW (t.1 108 w).toInt (t.1 145 (4 + w)).toInt (t.1 103 7).toInt (t.1 112 w).toInt := by
  obtain ⟨b1, b2, b3, b4, b5, b6, b7, b8, b9, b10⟩ := id S
  have hn := b1.n6
  have w5 : inb (I w) 5 = true := inb_t (by omega) (by omega)
  have ww : (I w).toNatClampNeg = w := I_nat (by omega)
  obtain ⟨H1, H2, H3⟩ := b4.2.2.2.2.2 w hw
  obtain ⟨c1, c2, c3⟩ := b1.cools hw
  obtain ⟨s1, s2, s3⟩ := b1.sort hw
  have hl : EqB (s.1 p 4) (t.1 103 7) 0 99 := by have := b1.sc.2.2.2.2.1; simpa using this
  obtain ⟨l1, l2, l3⟩ := hl
  have e1 : (t.1 145 (4 + w) - t.1 103 7).toInt = (t.1 145 (4 + w)).toInt - (t.1 103 7).toInt := ti_sub (by omega) (by omega)
  have pre : f_X6_coolsWithin (I w) s = if t.1 108 w = 2 then some 0 else if 0 < t.1 145 (4 + w) - t.1 103 7 then (if 0 < t.1 112 w then gd (!((t.1 112 w) == 0)) (some ((((60 * (t.1 145 (4 + w) - t.1 103 7)) + (t.1 112 w)) - 1) / (t.1 112 w))) else some 1000000) else some 0 := by
    unfold f_X6_coolsWithin
    rw [b2, b3, b1.1, b4.1, gd_t, w5, gd_t, ww, tS_f, ltb_t, gd_t, gd_t, gd_t, H1, l1, ltb_t, s1, c1]
  have two : t.1 108 w = 2 ↔ (t.1 108 w).toInt = 2 := by
    have : (2 : Int32).toInt = 2 := by decide
    rw [← Int32.toInt_inj, this]
  rw [pre]
  unfold CW
  by_cases z : t.1 108 w = 2
  · rw [if_pos z, if_pos (Or.inl (two.mp z))]
    exact ⟨0, rfl, rfl⟩
  · have z' : ¬ (t.1 108 w).toInt = 2 := fun q => z (two.mpr q)
    rw [if_neg z]
    by_cases y : 0 < t.1 145 (4 + w) - t.1 103 7
    · have y' := y
      rw [Int32.lt_iff_toInt_lt, Int32.toInt_zero, e1] at y'
      have hz : ¬ ((t.1 108 w).toInt = 2 ∨ (t.1 145 (4 + w)).toInt ≤ (t.1 103 7).toInt) := by omega
      rw [if_pos y, if_neg hz]
      by_cases x : 0 < t.1 112 w
      · have x' := x
        rw [Int32.lt_iff_toInt_lt, Int32.toInt_zero] at x'
        have hC : ¬ (t.1 112 w).toInt ≤ 0 := by omega
        rw [if_pos x, if_neg hC]
        have n0 : (!((t.1 112 w) == 0)) = true := by
          rw [Bool.not_eq_true', beq_eq_false_iff_ne]
          intro q
          rw [q, Int32.toInt_zero] at x'
          omega
        rw [n0, gd_t]
        refine ⟨_, rfl, ?_⟩
        have a1 : (60 * (t.1 145 (4 + w) - t.1 103 7)).toInt = 60 * ((t.1 145 (4 + w)).toInt - (t.1 103 7).toInt) := by rw [ti_mul (by rw [t60, e1]; omega) (by rw [t60, e1]; omega), t60, e1]
        have a2 : (60 * (t.1 145 (4 + w) - t.1 103 7) + t.1 112 w).toInt = 60 * ((t.1 145 (4 + w)).toInt - (t.1 103 7).toInt) + (t.1 112 w).toInt := by rw [ti_add (by omega) (by omega), a1]
        have a3 : (60 * (t.1 145 (4 + w) - t.1 103 7) + t.1 112 w - 1).toInt = 60 * ((t.1 145 (4 + w)).toInt - (t.1 103 7).toInt) + (t.1 112 w).toInt - 1 := by rw [ti_sub (by rw [t1]; omega) (by rw [t1]; omega), a2, t1]
        rw [div_t (by omega) (by omega), a3]
      · rw [if_neg x]
        rw [Int32.lt_iff_toInt_lt, Int32.toInt_zero] at x
        have hC : (t.1 112 w).toInt ≤ 0 := by omega
        rw [if_pos hC]
        exact ⟨1000000, rfl, by decide⟩
    · rw [if_neg y]
      rw [Int32.lt_iff_toInt_lt, Int32.toInt_zero, e1] at y
      have hz : (t.1 108 w).toInt = 2 ∨ (t.1 145 (4 + w)).toInt ≤ (t.1 103 7).toInt := Or.inr (by omega)
      rw [if_pos hz]
      exact ⟨0, rfl, rfl⟩
/-- the reference waits until it is cool enough, or he must go -/
theorem m_cool {i w G F : Nat} (hi : i < 6) (hw : w < 10) {L srt : Int32} {HT : Nat → Int32} (K : Int32 → Int32 → HS → Option HS) (v5 : Int32) (hs : t.1 108 w = srt) (hl : t.1 103 7 = L) (hh : ∀ τ, τ ≤ 900 → f_X12_heatAt (I i) (I w) (I τ) t = some (HT τ)) (hg : f_X12_goesAt (I i) t = some (I G)) (hG : G ≤ 900) (hF : F ≤ G + 1) :
    ∀ d T, T + d = F → (∀ τ, T ≤ τ → τ < F → ¬ srt = 2 ∧ ¬ HT τ ≤ L) → (F ≤ G → srt = 2 ∨ HT F ≤ L) → T ≤ G + 1 → ∀ f, d + 1 < f → f_X12_drinks_l151 (I i) v5 (I w) K f (I T) (if T ≤ G then 1 else 0) t = K (I F) (if F ≤ G then 1 else 0) t := by
  have w10 : inb (I w) 10 = true := inb_t (by omega) (by omega)
  have ww : (I w).toNatClampNeg = w := I_nat (by omega)
  intro d
  induction d with
  | zero =>
    intro T hT h1 h2 h3 f hf
    obtain ⟨f', rfl⟩ : ∃ f', f = f' + 1 := ⟨f - 1, by omega⟩
    have hT : T = F := by omega
    subst hT
    by_cases z : T ≤ G
    · simp only [f_X12_drinks_l151, f_X12_drinks_l151b, if_pos z, if_neg one_ne, w10, gd_t, ww, hs]
      by_cases y : srt = 2
      · rw [if_pos y]
      · rw [if_neg y, hh T (by omega), bnd_t, hl, if_pos ((h2 z).resolve_left y)]
    · simp only [f_X12_drinks_l151, f_X12_drinks_l151b, if_neg z, if_true]
  | succ d ih =>
    intro T hT h1 h2 h3 f hf
    obtain ⟨f', rfl⟩ : ∃ f', f = f' + 1 := ⟨f - 1, by omega⟩
    have z : T ≤ G := by omega
    obtain ⟨q1, q2⟩ := h1 T (by omega) (by omega)
    have := ih (T + 1) (by omega) (fun τ h3 h4 => h1 τ (by omega) h4) h2 (by omega) f' (by omega)
    simp only [f_X12_drinks_l151, f_X12_drinks_l151b, if_pos z, if_neg one_ne, w10, gd_t, ww, hs, if_neg q1, hh T (by omega), bnd_t, hl, if_neg q2, ltb_t, I_succ, hg]
    by_cases y : T + 1 ≤ G
    · rw [if_pos y] at this
      have : ¬ I G < I (T + 1) := by rw [I_lt (by omega) (by omega)]; omega
      rw [if_neg this]; assumption
    · rw [if_neg y] at this
      have : I G < I (T + 1) := by rw [I_lt (by omega) (by omega)]; omega
      rw [if_pos this]; assumption
theorem sub_neg60 {x m : Int32} : x - ((-60) * m) = 60 * m + x := by grind
/-- whether it comes from what stood poured, and since when it cools -/
theorem r_since (S : SR p a c h n s t) {i w sv : Nat} (hi : i < n) (hw : w < h) (h7 : t.1 151 i = I sv) (hsv : sv ≤ 900) :
    ∃ (fs sn : Int32), (∀ (o : Nat) (v3 v4 v5 : Int32) (K : Int32 → Int32 → Int32 → HS → Option HS), (if I w = (s.1 73 5) then (if (((s.1 73 16) >>> (I i &&& 31)) &&& (1 : Int32)) = 0 then f_X6_drink_j65 (I i) o v3 v4 v5 (I w) K s else f_X6_drink_j66 (I i) o v3 v4 v5 (I w) 1 K s) else f_X6_drink_j65 (I i) o v3 v4 v5 (I w) K s) = f_X6_drink_j89 (I i) o v3 v4 v5 (I w) fs sn K s) ∧
      (-180 ≤ sn.toInt ∧ sn.toInt ≤ sv) ∧ (∀ τ : Int32, f_X12_heatAt (I i) (I w) τ t = some (imax 0 (t.1 145 (4 + w) - t.1 112 w * (τ - sn) / 60))) ∧ ((fs = 0 ∧ (t.1 155 i = 0 ∨ ¬ I w = t.1 101 64)) ∨ (fs = 1 ∧ ¬ t.1 155 i = 0 ∧ I w = t.1 101 64)) := by
  obtain ⟨b1, b2, b3, b4, b5, b6, b7, b8, b9, b10⟩ := id S
  have hn := b1.n6
  have i6 : inb (I i) 6 = true := inb_t (by omega) (by omega)
  have ii : (I i).toNatClampNeg = i := I_nat (by omega)
  have w10 : inb (I w) 10 = true := inb_t (by omega) (by omega)
  have ww : (I w).toNatClampNeg = w := I_nat (by omega)
  have w9 : (4 : Int32) + I w = I (4 + w) := I_add 4 w
  have w9' : inb (I (4 + w)) 9 = true := inb_t (by omega) (by omega)
  have ww9 : (I (4 + w)).toNatClampNeg = 4 + w := I_nat (by omega)
  obtain ⟨-, -, -, -, -, -, d1, -, d2, -⟩ := b7 i hi
  rw [h7] at d1
  have hq : t.1 101 64 = s.1 73 5 := by
    rcases b5.2.2 with ⟨e1, e2⟩ | ⟨k, k1, e1, e2, -⟩
    · rw [e1, e2]
    · rw [e1, e2]
  have own : (t.1 155 i = 0 ∨ ¬ I w = t.1 101 64) → ∀ τ : Int32, f_X12_heatAt (I i) (I w) τ t = some (imax 0 (t.1 145 (4 + w) - t.1 112 w * (τ - I sv) / 60)) := by
    intro e τ
    have e0 : f_X12_heatAt (I i) (I w) τ t = f_X12_heatAt_j29 (I i) (I w) τ t := by
      unfold f_X12_heatAt
      rw [i6, gd_t, ii]
      rcases e with e | e
      · rw [if_pos e]
      · by_cases z : t.1 155 i = 0
        · rw [if_pos z]
        · rw [if_neg z, if_neg e]
    rw [e0]
    unfold f_X12_heatAt_j29 f_X12_heatAt_j37
    rw [i6, gd_t, ii, h7, w9, w9', gd_t, w10, gd_t, ww9, ww]
  have plain : ∀ (o : Nat) (v3 v4 v5 : Int32) (K : Int32 → Int32 → Int32 → HS → Option HS), f_X6_drink_j65 (I i) o v3 v4 v5 (I w) K s = f_X6_drink_j89 (I i) o v3 v4 v5 (I w) 0 (I sv) K s := by
    intro o v3 v4 v5 K
    unfold f_X6_drink_j65 f_X6_drink_j66
    rw [if_pos (Eq.refl _), i6, gd_t, ii, d1]
  by_cases z : I w = s.1 73 5
  · by_cases y : ((s.1 73 16) >>> (I i &&& 31)) &&& (1 : Int32) = 0
    · refine ⟨0, I sv, fun o v3 v4 v5 K => by rw [if_pos z, if_pos y, plain], ⟨by rw [I_toInt (by omega)]; omega, by rw [I_toInt (by omega)]; omega⟩, own (Or.inl (by rw [← d2, y])), Or.inl ⟨rfl, Or.inl (by rw [← d2, y])⟩⟩
    · have y1 : ¬ t.1 155 i = 0 := by rw [← d2]; exact y
      rcases b5.2.2 with ⟨e1, e2⟩ | ⟨k, k1, e1, e2, e3, e4, e5⟩
      · rw [e1] at z; exact absurd z (I_nn (by omega))
      · have m60 : ((-60 : Int32) * t.1 101 66).toInt = -60 * (t.1 101 66).toInt := by
          have : (-60 : Int32).toInt = -60 := by decide
          rw [ti_mul (by rw [this]; omega) (by rw [this]; omega), this]
        refine ⟨1, (-60) * t.1 101 66, fun o v3 v4 v5 K => ?_, ⟨by rw [m60]; omega, by rw [m60]; omega⟩, fun τ => ?_, Or.inr ⟨rfl, y1, by rw [hq]; exact z⟩⟩
        · rw [if_pos z, if_neg y]
          unfold f_X6_drink_j66
          rw [if_neg one_ne, e3]
        · unfold f_X12_heatAt f_X12_heatAt_j37
          rw [i6, gd_t, ii, if_neg y1, hq, if_pos z, w9, w9', gd_t, w10, gd_t, ww9, ww, sub_neg60]
  · refine ⟨0, I sv, fun o v3 v4 v5 K => by rw [if_neg z, plain], ⟨by rw [I_toInt (by omega)]; omega, by rw [I_toInt (by omega)]; omega⟩, own (Or.inr (by rw [hq]; exact z)), Or.inl ⟨rfl, Or.inr (by rw [hq]; exact z)⟩⟩
end DRINK
