/-! Changes of the hand -/
theorem Z1 : ∀ W, W < 64 → ∀ k, k < 6 → (I W &&& (((1 : Int32) <<< (I k &&& 31)) ^^^ (-1 : Int32))) = (if W.testBit k then I W ^^^ ((1 : Int32) <<< (I k &&& 31)) else I W) ∧ (I W ||| ((1 : Int32) <<< (I k &&& 31))) = (if W.testBit k then I W else I W ^^^ ((1 : Int32) <<< (I k &&& 31))) := by decide +kernel
theorem Z2 : ∀ k, k < 6 → ∀ W, W < 64 → I W ≠ I W ^^^ ((1 : Int32) <<< (I k &&& 31)) := by decide +kernel
theorem xor_lt2 {W k n : Nat} (h : W < 2 ^ n) (hk : k < n) : W ^^^ 2 ^ k < 2 ^ n := Nat.xor_lt_two_pow h (Nat.pow_lt_pow_right (by omega) hk)
def CL (a h : Nat) (stop : Int) (w x : Int32) (o k q : Nat) (lo hi : Int) : Prop :=
  (w = 0 ∧ o = a ∧ k = 1 ∧ q = 1 ∧ lo = 1 ∧ hi = stop) ∨ (w = 1 ∧ o = a ∧ k = 2 ∧ q = 2 ∧ lo = 0 ∧ hi = 200) ∨ (w = 2 ∧ o = a ∧ k = 3 ∧ q = 3 ∧ lo = 1 ∧ hi = 2) ∨ (w = 4 ∧ ∃ j, j < h ∧ x = I j ∧ o = a + 1 ∧ k = j ∧ q = 4 + j ∧ lo = 0 ∧ hi = 99)
theorem all2 {lo hi : Int} {l u y : Int32} (hl : l.toInt = lo) (hu : u.toInt = hi) : (if y < l then (0 : Int32) else (if u < y then 0 else 1)) = if y.toInt < lo ∨ hi < y.toInt then 0 else 1 := by
  have e1 : y < l ↔ y.toInt < lo := by rw [Int32.lt_iff_toInt_lt, hl]
  have e2 : u < y ↔ hi < y.toInt := by rw [Int32.lt_iff_toInt_lt, hu]
  by_cases z1 : y.toInt < lo
  · rw [if_pos (e1.mpr z1), if_pos (Or.inl z1)]
  · rw [if_neg (fun q => z1 (e1.mp q))]
    by_cases z2 : hi < y.toInt
    · rw [if_pos (e2.mpr z2), if_pos (Or.inr z2)]
    · rw [if_neg (fun q => z2 (e2.mp q)), if_neg (by omega)]
section CHANGE
variable {p d c h n a : Nat} {s t : HS}
/-- a value is changed, in the State a and in the row 145 -/
theorem r_chgv (P : PL p 0 c h n s t) (A : HR a h n s t) {w x : Int32} {o k q : Nat} {lo hi : Int} (C : CL a h (t.1 103 3).toInt w x o k q lo hi) (y : Int32) :
    s.1 o k = t.1 145 q ∧ lo ≤ (t.1 145 q).toInt ∧ (t.1 145 q).toInt ≤ hi ∧ f_X7_valueOf a p w x s = some (t.1 145 q) ∧
    f_X7_change a p w x y s = (if t.1 145 q = y then some (0, s) else if y.toInt < lo ∨ hi < y.toInt then some (0, s) else some (1, sI s o k y)) ∧
    (lo ≤ y.toInt → y.toInt ≤ hi → HR a h n (sI s o k y) (sI t 145 q y)) := by
  have hn := P.n6
  have o4 := okX7_4 A.1
  obtain ⟨a1, a2, a3, a4, a5, a6⟩ := A
  rw [o4] at a6
  have stop : EqB (s.1 p 0) (t.1 103 3) 60 900 := P.2.2.2.2.2.1.1
  have l1 : (1 : Int32).toInt = 1 := by decide
  have l0 : (0 : Int32).toInt = 0 := by decide
  have l2 : (2 : Int32).toInt = 2 := by decide
  have l99 : (99 : Int32).toInt = 99 := by decide
  have l200 : (200 : Int32).toInt = 200 := by decide
  have lm : (-1 : Int32).toInt = -1 := by decide
  have fin : ∀ (s1 : HS) (v : Int32), 0 ≤ v.toInt → f_X7_valueOf a p w x s = some v → f_X7_isAllowed p w y s = (if y.toInt < lo ∨ hi < y.toInt then 0 else 1) → (if w = 0 then ltb (sI s a 1 y) fun s6 => some ((1 : Int32), s6) else if w = 1 then ltb (sI s a 2 y) fun s8 => some (1, s8) else if w = 2 then ltb (sI s a 3 y) fun s10 => some (1, s10) else if w = 3 then ltb (sI s a 0 ((s.1 a 0) ^^^ ((1 : Int32) <<< (x &&& 31)))) fun s12 => some (1, s12) else gd (inb x 5) (ltb (sI s (Rf a 4) (x.toNatClampNeg) y) fun s13 => some (1, s13))) = some (1, s1) → f_X7_change a p w x y s = (if v = y then some (0, s) else if y.toInt < lo ∨ hi < y.toInt then some (0, s) else some (1, s1)) := by
    intro s1 v h0 h1 h2 h3
    have nv : ¬ v = -1 := fun e => by rw [e, lm] at h0; omega
    unfold f_X7_change
    rw [h1, bnd_t, if_neg nv, h2, h3]
    by_cases z : v = y
    · rw [if_pos z, if_pos z]
    · rw [if_neg z, if_neg z]
      by_cases z2 : y.toInt < lo ∨ hi < y.toInt
      · rw [if_pos z2, if_pos z2, if_pos (Eq.refl _)]
      · rw [if_neg z2, if_neg z2, if_neg one_ne]
  have oa : ∀ (k : Nat) (y : Int32), (sI s a k y).1 (a + 1) = s.1 (a + 1) := fun k y => sI_n _ _ _ (by omega)
  have oa' : ∀ (k : Nat) (y : Int32), (sI s (a + 1) k y).1 a = s.1 a := fun k y => sI_n _ _ _ (by omega)
  have o103 : ∀ (k : Nat) (y : Int32), (sI t 145 k y).1 103 = t.1 103 := fun k y => sI_n _ _ _ (by omega)
  rcases C with ⟨rfl, rfl, rfl, rfl, rfl, rfl⟩ | ⟨rfl, rfl, rfl, rfl, rfl, rfl⟩ | ⟨rfl, rfl, rfl, rfl, rfl, rfl⟩ | ⟨rfl, j, j1, rfl, rfl, rfl, rfl, rfl, rfl⟩
  · have vo : f_X7_valueOf o p 0 x s = some (t.1 145 1) := by unfold f_X7_valueOf; rw [if_pos (Eq.refl _), a3.1]
    refine ⟨a3.1, a3.2.1, a3.2.2, vo, fin _ _ (by have := a3.2.1; omega) vo ?_ ?_, fun b1 b2 => ⟨a1, ?_, ?_, ?_, ?_, fun i hi => ?_⟩⟩
    · unfold f_X7_isAllowed
      rw [if_pos (Eq.refl _)]
      exact all2 l1 (by rw [stop.1])
    · rw [if_pos (Eq.refl _), ltb_t]
    · rw [sI_s, sI_s, if_neg (by decide), if_neg (by decide)]; exact a2
    · rw [sI_k, sI_k, o103]; exact ⟨rfl, b1, b2⟩
    · rw [sI_s, sI_s, if_neg (by decide), if_neg (by decide)]; exact a4
    · rw [sI_s, sI_s, if_neg (by decide), if_neg (by decide)]; exact a5
    · rw [o4, oa, sI_s, if_neg (by omega)]; exact a6 i hi
  · have n0 : ¬ (1 : Int32) = 0 := by decide
    have vo : f_X7_valueOf o p 1 x s = some (t.1 145 2) := by unfold f_X7_valueOf; rw [if_neg n0, if_pos (Eq.refl _), a4.1]
    refine ⟨a4.1, a4.2.1, a4.2.2, vo, fin _ _ (by have := a4.2.1; omega) vo ?_ ?_, fun b1 b2 => ⟨a1, ?_, ?_, ?_, ?_, fun i hi => ?_⟩⟩
    · unfold f_X7_isAllowed
      rw [if_neg n0, if_pos (Eq.refl _)]
      exact all2 l0 l200
    · rw [if_neg n0, if_pos (Eq.refl _), ltb_t]
    · rw [sI_s, sI_s, if_neg (by decide), if_neg (by decide)]; exact a2
    · rw [sI_s, sI_s, if_neg (by decide), if_neg (by decide), o103]; exact a3
    · rw [sI_k, sI_k]; exact ⟨rfl, b1, b2⟩
    · rw [sI_s, sI_s, if_neg (by decide), if_neg (by decide)]; exact a5
    · rw [o4, oa, sI_s, if_neg (by omega)]; exact a6 i hi
  · have n0 : ¬ (2 : Int32) = 0 := by decide
    have n1 : ¬ (2 : Int32) = 1 := by decide
    have vo : f_X7_valueOf o p 2 x s = some (t.1 145 3) := by unfold f_X7_valueOf; rw [if_neg n0, if_neg n1, if_pos (Eq.refl _), a5.1]
    refine ⟨a5.1, a5.2.1, a5.2.2, vo, fin _ _ (by have := a5.2.1; omega) vo ?_ ?_, fun b1 b2 => ⟨a1, ?_, ?_, ?_, ?_, fun i hi => ?_⟩⟩
    · unfold f_X7_isAllowed
      rw [if_neg n0, if_neg n1, if_pos (Eq.refl _)]
      exact all2 l1 l2
    · rw [if_neg n0, if_neg n1, if_pos (Eq.refl _), ltb_t]
    · rw [sI_s, sI_s, if_neg (by decide), if_neg (by decide)]; exact a2
    · rw [sI_s, sI_s, if_neg (by decide), if_neg (by decide), o103]; exact a3
    · rw [sI_s, sI_s, if_neg (by decide), if_neg (by decide)]; exact a4
    · rw [sI_k, sI_k]; exact ⟨rfl, b1, b2⟩
    · rw [o4, oa, sI_s, if_neg (by omega)]; exact a6 i hi
  · have n0 : ¬ (4 : Int32) = 0 := by decide
    have n1 : ¬ (4 : Int32) = 1 := by decide
    have n2 : ¬ (4 : Int32) = 2 := by decide
    have n3 : ¬ (4 : Int32) = 3 := by decide
    have j5 : inb (I k) 5 = true := inb_t (by omega) (by omega)
    have jj : (I k).toNatClampNeg = k := I_nat (by omega)
    have nn : ¬ I k < 0 := by rw [I0, I_lt (by omega) (by omega)]; omega
    have nh : ¬ I h ≤ I k := by rw [I_le (by omega) (by omega)]; omega
    have vo : f_X7_valueOf a p 4 (I k) s = some (t.1 145 (4 + k)) := by
      unfold f_X7_valueOf
      rw [if_neg n0, if_neg n1, if_neg n2, if_neg n3, if_pos (Eq.refl _), if_neg nn, P.hc, if_neg nh, j5, gd_t, jj, o4, (a6 k j1).1]
    refine ⟨(a6 k j1).1, (a6 k j1).2.1, (a6 k j1).2.2, vo, fin _ _ (by have := (a6 k j1).2.1; omega) vo ?_ ?_, fun b1 b2 => ⟨a1, ?_, ?_, ?_, ?_, fun i hi => ?_⟩⟩
    · unfold f_X7_isAllowed
      rw [if_neg n0, if_neg n1, if_neg n2, if_neg n3]
      exact all2 l0 l99
    · rw [if_neg n0, if_neg n1, if_neg n2, if_neg n3, j5, gd_t, ltb_t, jj, o4]
    · rw [oa', sI_s, if_neg (by omega)]; exact a2
    · rw [oa', sI_s, if_neg (by omega), o103]; exact a3
    · rw [oa', sI_s, if_neg (by omega)]; exact a4
    · rw [oa', sI_s, if_neg (by omega)]; exact a5
    · rw [o4, sI_s, sI_s]
      by_cases z : i = k
      · subst z; rw [if_pos (Eq.refl _), if_pos (Eq.refl _)]; exact ⟨rfl, b1, b2⟩
      · rw [if_neg z, if_neg (by omega)]; exact a6 i hi
/-- somebody goes out or comes home, in the State a and in the row 145 -/
theorem r_tog (P : PL p 0 c h n s t) (A : HR a h n s t) {k : Nat} (hk : k < n) (y : Int32) :
    ∃ W, W < 2 ^ n ∧ t.1 145 0 = I W ∧ f_X7_valueOf a p 3 (I k) s = some (if W.testBit k then 1 else 0) ∧
    f_X7_change a p 3 (I k) y s = (if (if W.testBit k then (1 : Int32) else 0) = y then some (0, s) else if y = 0 ∨ y = 1 then some (1, sI s a 0 (I W ^^^ ((1 : Int32) <<< (I k &&& 31)))) else some (0, s)) ∧
    HR a h n (sI s a 0 (I W ^^^ ((1 : Int32) <<< (I k &&& 31)))) (sI t 145 0 (I W ^^^ ((1 : Int32) <<< (I k &&& 31)))) := by
  have hn := P.n6
  have o4 := okX7_4 A.1
  obtain ⟨a1, a2, a3, a4, a5, a6⟩ := A
  obtain ⟨b1, b2, b3⟩ := a2
  have pz : ((2 ^ n : Nat) : Int) = (2 : Int) ^ n := by push_cast; rfl
  have p64 : 2 ^ n ≤ 64 := (Nat.pow_le_pow_right (by omega) hn.2.2 : 2 ^ n ≤ 2 ^ 6)
  have p1 : 1 ≤ 2 ^ n := Nat.one_le_two_pow
  have n0 : ¬ (3 : Int32) = 0 := by decide
  have n1 : ¬ (3 : Int32) = 1 := by decide
  have n2 : ¬ (3 : Int32) = 2 := by decide
  have nn : ¬ I k < 0 := by rw [I0, I_lt (by omega) (by omega)]; omega
  have nh : ¬ I n ≤ I k := by rw [I_le (by omega) (by omega)]; omega
  have W1 : t.1 145 0 = I (t.1 145 0).toInt.toNat := I_of b2
  have W2 : (t.1 145 0).toInt.toNat < 2 ^ n := by omega
  generalize (t.1 145 0).toInt.toNat = W at W1 W2
  have vo : f_X7_valueOf a p 3 (I k) s = some (if W.testBit k then 1 else 0) := by
    unfold f_X7_valueOf
    rw [if_neg n0, if_neg n1, if_neg n2, if_pos (Eq.refl _), if_neg nn, P.nc, if_neg nh, b1, W1, bitb W (by omega) k (by omega)]
  have al : f_X7_isAllowed p 3 y s = if y = 0 ∨ y = 1 then 1 else 0 := by
    unfold f_X7_isAllowed
    rw [if_neg n0, if_neg n1, if_neg n2, if_pos (Eq.refl _)]
    by_cases z : y = 0
    · rw [if_pos z, if_pos (Or.inl z)]
    · rw [if_neg z]
      by_cases z2 : y = 1
      · rw [if_pos z2, if_pos (Or.inr z2)]
      · rw [if_neg z2, if_neg (by rintro (q | q); exact z q; exact z2 q)]
  have x1 := D5 W (by omega) k (by omega)
  refine ⟨W, W2, W1, vo, ?_, a1, ?_, ?_, ?_, ?_, fun i hi => ?_⟩
  · have nb : ¬ (if W.testBit k then (1 : Int32) else 0) = -1 := by cases W.testBit k <;> decide
    unfold f_X7_change
    rw [vo, bnd_t, if_neg nb, al]
    by_cases z : (if W.testBit k then (1 : Int32) else 0) = y
    · rw [if_pos z, if_pos z]
    · rw [if_neg z, if_neg z]
      by_cases z2 : y = 0 ∨ y = 1
      · rw [if_pos z2, if_pos z2, if_neg one_ne, if_neg n0, if_neg n1, if_neg n2, if_pos (Eq.refl _), ltb_t, b1, W1]
      · rw [if_neg z2, if_neg z2, if_pos (Eq.refl _)]
  · rw [sI_k, sI_k, x1.1]
    have := xor_lt2 W2 hk
    exact ⟨rfl, by rw [I_toInt (by omega)]; omega, by rw [I_toInt (by omega)]; omega⟩
  · rw [sI_s, sI_s, if_neg (by decide), if_neg (by decide), sI_n _ _ _ (by decide)]; exact a3
  · rw [sI_s, sI_s, if_neg (by decide), if_neg (by decide)]; exact a4
  · rw [sI_s, sI_s, if_neg (by decide), if_neg (by decide)]; exact a5
  · rw [o4, sI_n _ _ _ (by omega), sI_s, if_neg (by omega), ← o4]; exact a6 i hi
theorem m_chg0 {q : Nat} (hq : q < 9) (y : Int32) : f_X12_changes (I q) y 0 t = if t.1 145 q = y then some (0, t) else some (1, sI t 145 q y) := by
  have i9 : inb (I q) 9 = true := inb_t (by omega) (by omega)
  have qq : (I q).toNatClampNeg = q := I_nat (by omega)
  unfold f_X12_changes
  rw [i9, gd_t, qq, if_pos (Eq.refl _), gd_t, ltb_t]
end CHANGE
