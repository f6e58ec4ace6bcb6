/-! order's value: the reference's codes -/
def SVq (t : HS) (d : Nat) : Int32 := if t.1 130 d = 21 then t.1 129 d - t.1 131 d else t.1 129 d + t.1 131 d
def TVq (t : HS) (d : Nat) : Int32 := if t.1 128 d = 24 then (if SVq t d ≤ t.1 127 d then 0 else 1) else if t.1 128 d = 25 then (if t.1 127 d = SVq t d then 1 else 0) else SVq t d
def WVq (t : HS) (d : Nat) : Int32 := if t.1 126 d = 26 then (if t.1 125 d = 0 then 0 else if TVq t d = 0 then 0 else 1) else if t.1 126 d = 27 then (if t.1 125 d = 0 then (if TVq t d = 0 then 0 else 1) else 1) else TVq t d
def VALq (l : Nat) (t : HS) (d : Nat) : Int32 := if l = 1 then t.1 131 d else if l = 2 then SVq t d else if l = 3 then TVq t d else WVq t d
def sumq (t : HS) (d : Nat) : HS := sI (sI t 129 d (SVq t d)) 132 d 0
def testq (t : HS) (d : Nat) : HS := sI (sI (sI (sI (sumq t d) 125 d (WVq t d)) 128 d 0) 129 d 0) 130 d 20
def openq (t : HS) (d : Nat) (y : Int32) : HS := sI (sI (sI (sI (sI (sI t 133 d y) 126 d 0) 128 d 0) 129 d 0) 130 d 20) 132 d 0
/-- all below d, and all other objects, stand as before -/
def Fz (d : Nat) (t t' : HS) : Prop := (∀ o, (o < 125 ∨ 133 < o) → t'.1 o = t.1 o) ∧ (∀ o j, j < d → t'.1 o j = t.1 o j)
def ATq (l d : Nat) (t t' : HS) : Prop := t'.1 133 d = t.1 133 d ∧ (l ≤ 3 → t'.1 125 d = t.1 125 d ∧ t'.1 126 d = t.1 126 d) ∧ (l ≤ 2 → t'.1 127 d = t.1 127 d ∧ t'.1 128 d = t.1 128 d) ∧ (l ≤ 1 → t'.1 129 d = t.1 129 d ∧ t'.1 130 d = t.1 130 d) ∧ (l ≤ 0 → t'.1 131 d = t.1 131 d ∧ t'.1 132 d = t.1 132 d)
theorem Fz.refl {d : Nat} {t : HS} : Fz d t t := ⟨fun _ _ => rfl, fun _ _ _ => rfl⟩
theorem Fz.trans {d : Nat} {a b c : HS} (h : Fz d a b) (g : Fz d b c) : Fz d a c := ⟨fun o q => (g.1 o q).trans (h.1 o q), fun o j q => (g.2 o j q).trans (h.2 o j q)⟩
theorem Fz.down {d d' : Nat} {a b : HS} (h : Fz d a b) (q : d' ≤ d) : Fz d' a b := ⟨h.1, fun o j z => h.2 o j (by omega)⟩
theorem Fz.sI {d k o : Nat} {t : HS} {x : Int32} (h : 125 ≤ o ∧ o ≤ 133) (q : d ≤ k) : Fz d t (sI t o k x) := by
  refine ⟨fun o' z => sI_n _ _ _ (by omega), fun o' j z => ?_⟩
  rw [sI_at]
  by_cases y : o' = o
  · rw [if_pos y, if_neg (by omega), y]
  · rw [if_neg y]
section MVAL
variable {t : HS} {d : Nat}
theorem sums_e (hd : d ≤ 6) : f_X12_sums (I d) t = some (sumq t d) := by
  have i7 : inb (I d) 7 = true := inb_t (by omega) (by omega)
  have dk : (I d).toNatClampNeg = d := I_nat (by omega)
  unfold f_X12_sums sumq SVq
  simp only [i7, dk, gd_t, ltb_t]
  by_cases z : t.1 130 d = 21
  · rw [if_pos z, if_pos z]
  · rw [if_neg z, if_neg z]
theorem tests_e (hd : d ≤ 6) : f_X12_tests (I d) t = some (testq t d) := by
  have i7 : inb (I d) 7 = true := inb_t (by omega) (by omega)
  have dk : (I d).toNatClampNeg = d := I_nat (by omega)
  have e125 : (sumq t d).1 125 = t.1 125 := by unfold sumq; rw [sI_n _ _ _ (by decide), sI_n _ _ _ (by decide)]
  have e126 : (sumq t d).1 126 = t.1 126 := by unfold sumq; rw [sI_n _ _ _ (by decide), sI_n _ _ _ (by decide)]
  have e127 : (sumq t d).1 127 = t.1 127 := by unfold sumq; rw [sI_n _ _ _ (by decide), sI_n _ _ _ (by decide)]
  have e128 : (sumq t d).1 128 = t.1 128 := by unfold sumq; rw [sI_n _ _ _ (by decide), sI_n _ _ _ (by decide)]
  have e129 : (sumq t d).1 129 d = SVq t d := by unfold sumq; rw [sI_n _ _ _ (by decide), sI_k]
  have last : ∀ x, f_X12_tests_j136 (I d) x (sumq t d) = some (sI (sI (sI (sI (sumq t d) 125 d x) 128 d 0) 129 d 0) 130 d 20) := fun x => by
    unfold f_X12_tests_j136
    simp only [i7, dk, gd_t, ltb_t]
  have w : ∀ x, f_X12_tests_j76 (I d) x (sumq t d) = some (sI (sI (sI (sI (sumq t d) 125 d (if t.1 126 d = 26 then (if t.1 125 d = 0 then 0 else if x = 0 then 0 else 1) else if t.1 126 d = 27 then (if t.1 125 d = 0 then (if x = 0 then 0 else 1) else 1) else x)) 128 d 0) 129 d 0) 130 d 20) := fun x => by
    unfold f_X12_tests_j76 f_X12_tests_j104 f_X12_tests_j105 f_X12_tests_j106 f_X12_tests_j130 f_X12_tests_j135
    simp only [i7, dk, gd_t, e126, e125, last]
    by_cases z : t.1 126 d = 26
    · have z' : ¬ t.1 126 d = 27 := by rw [z]; decide
      simp only [if_pos z, if_neg z']
      by_cases y : t.1 125 d = 0
      · simp only [if_pos y]
      · by_cases v : x = 0
        · simp only [if_neg y, if_pos v]
        · simp only [if_neg y, if_neg v]
    · simp only [if_neg z]
      by_cases z' : t.1 126 d = 27
      · simp only [if_pos z']
        by_cases y : t.1 125 d = 0
        · by_cases v : x = 0
          · simp only [if_pos y, if_pos v]
          · simp only [if_pos y, if_neg v]
        · simp only [if_neg y]
      · simp only [if_neg z']
  have u : ∀ x, ¬ t.1 128 d = 25 → f_X12_tests_j44 (I d) x (sumq t d) = f_X12_tests_j76 (I d) x (sumq t d) := fun x q => by
    unfold f_X12_tests_j44
    simp only [i7, dk, gd_t, e128, if_neg q]
  unfold f_X12_tests testq WVq TVq
  simp only [sums_e hd, bnd_t, i7, dk, gd_t, ltb_t, e127, e128, e129, f_X12_tests_j43]
  by_cases z : t.1 128 d = 24
  · have z' : ¬ t.1 128 d = 25 := by rw [z]; decide
    simp only [if_pos z, u _ z', w]
    by_cases y : SVq t d ≤ t.1 127 d
    · simp only [if_pos y]
    · simp only [if_neg y]
  · simp only [if_neg z]
    by_cases z' : t.1 128 d = 25
    · simp only [if_pos z']
      unfold f_X12_tests_j44 f_X12_tests_j75
      simp only [i7, dk, gd_t, e127, e128, e129, if_pos z', w]
      by_cases y : t.1 127 d = SVq t d
      · simp only [if_pos y]
      · simp only [if_neg y]
    · simp only [if_neg z', u _ z', w]
theorem opens_e (hd : d ≤ 6) (y : Int32) : f_X12_opens (I d) (sI t 133 d y) = some (openq t d y) := by
  have i7 : inb (I d) 7 = true := inb_t (by omega) (by omega)
  have dk : (I d).toNatClampNeg = d := I_nat (by omega)
  unfold f_X12_opens openq
  simp only [i7, dk, gd_t, ltb_t]
end MVAL
section MCODE
variable {K : HS → Option (Int32 × HS)} {f d i N : Nat} {t : HS}
/-- the code that stands next -/
def dspq (k14 : Int32 → Int32 → HS → Option (Int32 × HS)) (v2 v3 x8 : Int32) (s : HS) : Option (Int32 × HS) :=
  (if x8 = 28 then f_X12_worked_j46 0 v2 v3 x8 k14 s else (if x8 = 30 then f_X12_worked_j46 0 v2 v3 x8 k14 s else (if x8 = 20 then f_X12_worked_j89 0 v2 v3 x8 k14 s else (if x8 = 21 then f_X12_worked_j89 0 v2 v3 x8 k14 s else (if x8 = 22 then gd (inb v2 7) (ltb (sI s 132 (v2.toNatClampNeg) x8) fun s72 => f_X12_worked_j329_11 0 v2 v3 k14 s72) else (if x8 = 24 then f_X12_worked_j137 0 v2 v3 x8 k14 s else (if x8 = 25 then f_X12_worked_j137 0 v2 v3 x8 k14 s else (if x8 = 26 then f_X12_worked_j194 0 v2 v3 x8 k14 s else (if x8 = 27 then f_X12_worked_j194 0 v2 v3 x8 k14 s else (if x8 < 100 then (if 20 ≤ x8 then f_X12_worked_j243 0 v2 v3 x8 0 k14 s else gd (inb x8 20) (f_X12_worked_j243 0 v2 v3 x8 (s.1 134 x8.toNatClampNeg) k14 s)) else f_X12_worked_j243 0 v2 v3 x8 (x8 - 100) k14 s))))))))))
theorem m_disp (e1 : t.1 121 0 = I N) (hN : N ≤ 1000) (hi : i < N) {v : Int32} (hv : t.1 122 i = v) : f_X12_worked_l14 0 K (f + 1) (I d) (I i) t = dspq (f_X12_worked_l14 0 K f) (I d) (I i) v t := by
  have n1 : ¬ I N ≤ I i := by rw [I_le (by omega) (by omega)]; omega
  show f_X12_worked_l14b 0 (I d) (I i) (f_X12_worked_l14 0 K f) K t = _
  unfold f_X12_worked_l14b
  rw [show inb (0 : Int32) 2 = true from by decide, gd_t, show (0 : Int32).toNatClampNeg = 0 from by decide, e1, if_neg n1, inb_t (show i < 2000 from by omega) (by omega), gd_t, I_nat (show i < 2147483648 from by omega), hv, ltb_t]
  unfold dspq
  exact Eq.refl _
end MCODE
