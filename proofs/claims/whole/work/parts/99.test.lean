theorem tst1 (a b : Int32) (h : a < b) (h2 : b ≤ 900) (h3 : 0 ≤ a) : a + 1 ≤ 900 := by grind
theorem tst2 (a b : Int32) (h : a < b) (h2 : b ≤ 900) (h3 : 0 ≤ a) : ¬ b ≤ a := by grind
theorem tst3 (a b c : Int32) : (a + b) * c = c * b + a * c := by grind
theorem tst4 (a b : Int32) : a - b = a + (-1) * b := by grind
theorem tst5 (p : Nat) (h : okX4 p = true) (i : Nat) (hi : i < 6) : Rf (Rf p 15) i = p + 14 + 2 * i := by
  rcases okX4_c h with rfl | rfl <;> (revert i; decide)
theorem tst6 (s t : HS) (x : Int32) (h : s.1 3 4 = x) : (sI s 4 5 6).1 3 4 = x := by
  simp [sI, up2, h]
theorem tst7 (v0 v1 v2 : Int32) (k : Int32 → Int32 → Option Int32) (s : HS) (h : v2 = I 3) : f_X12_bits_l4b v0 v1 v2 k s = k (v1 + ((v0 >>> (v2 &&& 31)) &&& 1)) (I 4) := by
  subst h
  simp [f_X12_bits_l4b, ltb, I_succ]
  decide
