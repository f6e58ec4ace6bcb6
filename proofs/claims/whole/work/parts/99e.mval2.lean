/-! order's value: the reference, code by code -/
section MCODES
variable {d i : Nat} {t : HS} (k14 : Int32 → Int32 → HS → Option (Int32 × HS))
def dlq (i : Nat) (e d : Nat) (x : Int32) (t : HS) : Option (Int32 × HS) := f_X12_worked_l268 0 (I i) (fun v53 v54 s55 => f_X12_worked_j300 0 v53 (I i) v54 k14 s55) e (I d) x t
theorem q_open (hd : d ≤ 5) {v y : Int32} (h : (v = 28 ∧ y = 0) ∨ (v = 30 ∧ y = 1)) : dspq k14 (I d) (I i) v t = k14 (I (d + 1)) (I (i + 1)) (openq t (d + 1) y) := by
  have i7 : inb (I (d + 1)) 7 = true := inb_t (by omega) (by omega)
  have dk : (I (d + 1)).toNatClampNeg = d + 1 := I_nat (by omega)
  rcases h with ⟨rfl, rfl⟩ | ⟨rfl, rfl⟩
  · unfold dspq f_X12_worked_j46 f_X12_worked_j66 f_X12_worked_j329
    rw [if_pos (by decide), ltb_t, if_neg (by decide), I_p1, i7, gd_t, dk, ltb_t, opens_e (by omega), bnd_t, ltb_t, I_p1]
  · unfold dspq f_X12_worked_j46 f_X12_worked_j66 f_X12_worked_j329
    rw [if_neg (by decide), if_pos (by decide), ltb_t, if_pos (by decide), I_p1, i7, gd_t, dk, ltb_t, opens_e (by omega), bnd_t, ltb_t, I_p1]
theorem q_sum (hd : d ≤ 6) {v : Int32} (h : v = 20 ∨ v = 21) : dspq k14 (I d) (I i) v t = k14 (I d) (I (i + 1)) (sI (sumq t d) 130 d v) := by
  have i7 : inb (I d) 7 = true := inb_t (by omega) (by omega)
  have dk : (I d).toNatClampNeg = d := I_nat (by omega)
  rcases h with rfl | rfl
  · unfold dspq f_X12_worked_j89 f_X12_worked_j329
    rw [if_neg (by decide), if_neg (by decide), if_pos (by decide), sums_e hd, bnd_t, i7, gd_t, dk, ltb_t, ltb_t, I_p1]
  · unfold dspq f_X12_worked_j89 f_X12_worked_j329
    rw [if_neg (by decide), if_neg (by decide), if_neg (by decide), if_pos (by decide), sums_e hd, bnd_t, i7, gd_t, dk, ltb_t, ltb_t, I_p1]
theorem q_mul (hd : d ≤ 6) : dspq k14 (I d) (I i) 22 t = k14 (I d) (I (i + 1)) (sI t 132 d 22) := by
  have i7 : inb (I d) 7 = true := inb_t (by omega) (by omega)
  have dk : (I d).toNatClampNeg = d := I_nat (by omega)
  unfold dspq f_X12_worked_j329_11
  rw [if_neg (by decide), if_neg (by decide), if_neg (by decide), if_neg (by decide), if_pos (by decide), i7, gd_t, dk, ltb_t, ltb_t, I_p1]
theorem q_test (hd : d ≤ 6) {v : Int32} (h : v = 24 ∨ v = 25) : dspq k14 (I d) (I i) v t = k14 (I d) (I (i + 1)) (sI (sI (sI (sI (sumq t d) 127 d (SVq t d)) 128 d v) 129 d 0) 130 d 20) := by
  have i7 : inb (I d) 7 = true := inb_t (by omega) (by omega)
  have dk : (I d).toNatClampNeg = d := I_nat (by omega)
  have e129 : (sumq t d).1 129 d = SVq t d := by unfold sumq; rw [sI_n _ _ _ (by decide), sI_k]
  rcases h with rfl | rfl
  · unfold dspq f_X12_worked_j137 f_X12_worked_j329
    rw [if_neg (by decide), if_neg (by decide), if_neg (by decide), if_neg (by decide), if_neg (by decide), if_pos (by decide), sums_e hd, bnd_t]
    simp only [i7, gd_t, dk, ltb_t, e129, I_p1]
  · unfold dspq f_X12_worked_j137 f_X12_worked_j329
    rw [if_neg (by decide), if_neg (by decide), if_neg (by decide), if_neg (by decide), if_neg (by decide), if_neg (by decide), if_pos (by decide), sums_e hd, bnd_t]
    simp only [i7, gd_t, dk, ltb_t, e129, I_p1]
theorem q_and (hd : d ≤ 6) {v : Int32} (h : v = 26 ∨ v = 27) : dspq k14 (I d) (I i) v t = k14 (I d) (I (i + 1)) (sI (testq t d) 126 d v) := by
  have i7 : inb (I d) 7 = true := inb_t (by omega) (by omega)
  have dk : (I d).toNatClampNeg = d := I_nat (by omega)
  rcases h with rfl | rfl
  · unfold dspq f_X12_worked_j194 f_X12_worked_j329
    rw [if_neg (by decide), if_neg (by decide), if_neg (by decide), if_neg (by decide), if_neg (by decide), if_neg (by decide), if_neg (by decide), if_pos (by decide), tests_e hd, bnd_t]
    simp only [i7, gd_t, dk, ltb_t, I_p1]
  · unfold dspq f_X12_worked_j194 f_X12_worked_j329
    rw [if_neg (by decide), if_neg (by decide), if_neg (by decide), if_neg (by decide), if_neg (by decide), if_neg (by decide), if_neg (by decide), if_neg (by decide), if_pos (by decide), tests_e hd, bnd_t]
    simp only [i7, gd_t, dk, ltb_t, I_p1]
theorem q_close (hd : d ≤ 5) : dspq k14 (I (d + 1)) (I i) 29 t = dlq k14 i FU d (WVq t (d + 1)) (testq t (d + 1)) := by
  have i7 : inb (I (d + 1)) 7 = true := inb_t (by omega) (by omega)
  have dk : (I (d + 1)).toNatClampNeg = d + 1 := I_nat (by omega)
  have e125 : (testq t (d + 1)).1 125 (d + 1) = WVq t (d + 1) := by unfold testq; rw [sI_n _ _ _ (by decide), sI_n _ _ _ (by decide), sI_n _ _ _ (by decide), sI_k]
  have e2 : I (d + 1) + (-1) = I d := by rw [show (-1 : Int32) = -(I 1) from by decide, ← Int32.sub_eq_add_neg, I_sub (by omega)]; rfl
  unfold dspq f_X12_worked_j243 dlq
  rw [if_neg (by decide), if_neg (by decide), if_neg (by decide), if_neg (by decide), if_neg (by decide), if_neg (by decide), if_neg (by decide), if_neg (by decide), if_neg (by decide), if_pos (by decide), if_pos (by decide), if_pos (by decide), tests_e (by omega), bnd_t, i7, gd_t, dk, e125, ltb_t, e2, ltb_t]
theorem q_lit {v : Int32} (h : 30 < v.toInt) : dspq k14 (I d) (I i) v t = if v < 100 then (if 20 ≤ v then f_X12_worked_j243 0 (I d) (I i) v 0 k14 t else gd (inb v 20) (f_X12_worked_j243 0 (I d) (I i) v (t.1 134 v.toNatClampNeg) k14 t)) else f_X12_worked_j243 0 (I d) (I i) v (v - 100) k14 t := by
  have n : ∀ c : Int32, c.toInt ≤ 30 → ¬ v = c := fun c hc q => by rw [q] at h; omega
  unfold dspq
  rw [if_neg (n _ (by decide)), if_neg (n _ (by decide)), if_neg (n _ (by decide)), if_neg (n _ (by decide)), if_neg (n _ (by decide)), if_neg (n _ (by decide)), if_neg (n _ (by decide)), if_neg (n _ (by decide)), if_neg (n _ (by decide))]
theorem q_num {N : Nat} (hN : N < 10000) : dspq k14 (I d) (I i) (I (100 + N)) t = dlq k14 i FU d (I N) t := by
  have e : I (100 + N) - 100 = I N := by rw [show (100 : Int32) = I 100 from litI 100, I_sub (by omega), Nat.add_sub_cancel_left]
  have n29 : ¬ I (100 + N) = 29 := by rw [show (29 : Int32) = I 29 from litI 29, I_inj (by omega) (by omega)]; omega
  rw [q_lit k14 (by rw [I_toInt (by omega)]; omega), if_neg (by rw [show (100 : Int32) = I 100 from litI 100, I_lt (by omega) (by omega)]; omega), e]
  unfold f_X12_worked_j243 dlq
  rw [if_neg n29]
theorem q_fact {k : Nat} (hk : k < 4) : dspq k14 (I d) (I i) (I (k + 1)) t = dlq k14 i FU d (t.1 134 (k + 1)) t := by
  have n : ∀ c : Int32, 20 ≤ c.toInt → ¬ I (k + 1) = c := fun c h q => by rw [← q, I_toInt (by omega)] at h; omega
  unfold dspq
  rw [if_neg (n _ (by decide)), if_neg (n _ (by decide)), if_neg (n _ (by decide)), if_neg (n _ (by decide)), if_neg (n _ (by decide)), if_neg (n _ (by decide)), if_neg (n _ (by decide)), if_neg (n _ (by decide)), if_neg (n _ (by decide)),
    if_pos (by rw [show (100 : Int32) = I 100 from litI 100, I_lt (by omega) (by omega)]; omega), if_neg (by rw [show (20 : Int32) = I 20 from litI 20, I_le (by omega) (by omega)]; omega), inb_t (by omega) (by omega), gd_t, I_nat (by omega)]
  unfold f_X12_worked_j243 dlq
  rw [if_neg (n _ (by decide))]
theorem dl_not (hd : d ≤ 5) {e : Nat} {x : Int32} (h : t.1 133 (d + 1) = 1) : dlq k14 i (e + 1) (d + 1) x t = dlq k14 i e d (if x = 0 then 1 else 0) t := by
  have i7 : inb (I (d + 1)) 7 = true := inb_t (by omega) (by omega)
  have dk : (I (d + 1)).toNatClampNeg = d + 1 := I_nat (by omega)
  have e2 : I (d + 1) + (-1) = I d := by rw [show (-1 : Int32) = -(I 1) from by decide, ← Int32.sub_eq_add_neg, I_sub (by omega)]; rfl
  have n0 : ¬ I (d + 1) ≤ 0 := by rw [I0, I_le (by omega) (by omega)]; omega
  unfold dlq
  simp only [f_X12_worked_l268, f_X12_worked_l268b, if_neg n0, i7, gd_t, dk, if_pos h, e2, ltb_t]
  by_cases z : x = 0
  · rw [if_pos z, if_pos z]
  · rw [if_neg z, if_neg z]
theorem dl_stop (hd : d ≤ 6) {e : Nat} {x : Int32} (h : d = 0 ∨ ¬ t.1 133 d = 1) : dlq k14 i (e + 1) d x t = k14 (I d) (I (i + 1)) (sI t 131 d (if t.1 132 d = 0 then x else t.1 131 d * x)) := by
  have i7 : inb (I d) 7 = true := inb_t (by omega) (by omega)
  have dk : (I d).toNatClampNeg = d := I_nat (by omega)
  have j : f_X12_worked_j300 0 (I d) (I i) x k14 t = k14 (I d) (I (i + 1)) (sI t 131 d (if t.1 132 d = 0 then x else t.1 131 d * x)) := by
    unfold f_X12_worked_j300 f_X12_worked_j329
    simp only [i7, gd_t, dk, ltb_t, I_p1]
    by_cases z : t.1 132 d = 0
    · rw [if_pos z, if_pos z]
    · rw [if_neg z, if_neg z]
  unfold dlq
  rcases h with rfl | h
  · simp only [f_X12_worked_l268, f_X12_worked_l268b, I_e0, if_pos (Int32.le_refl _)]
    rw [← I_e0]; exact j
  · by_cases z : d = 0
    · subst z
      simp only [f_X12_worked_l268, f_X12_worked_l268b, I_e0, if_pos (Int32.le_refl _)]
      rw [← I_e0]; exact j
    · have n0 : ¬ I d ≤ 0 := by rw [I0, I_le (by omega) (by omega)]; omega
      simp only [f_X12_worked_l268, f_X12_worked_l268b, if_neg n0, i7, gd_t, dk, if_neg h]
      exact j
end MCODES
