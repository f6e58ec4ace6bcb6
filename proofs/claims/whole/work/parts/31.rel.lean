/-! What the class's heap s and the reference's heap t have in common -/
def EqB (a b : Int32) (lo hi : Int) : Prop := a = b ∧ lo ≤ b.toInt ∧ b.toInt ≤ hi
def bS (p i : Nat) : Nat := Rf (Rf p 15) i
def tS (p i : Nat) : Nat := Rf (Rf p 13) i
/-- the things k .. as bits -/
def wbits (w : Nat → Int32) : Nat → Int32
  | 0 => 0
  | m + 1 => wbits w m ||| ((1 : Int32) <<< (w m &&& 31))
def PLsc (p r : Nat) (s t : HS) : Prop :=
  EqB (s.1 p 0) (t.1 103 (10 * r + 3)) 60 900 ∧ EqB (s.1 p 1) (t.1 103 (10 * r + 4)) 1 900 ∧ EqB (s.1 p 2) (t.1 103 (10 * r + 5)) 1 2 ∧ EqB (s.1 p 3) (t.1 103 (10 * r + 6)) 0 60 ∧ EqB (s.1 p 4) (t.1 103 (10 * r + 7)) 0 99 ∧ EqB (s.1 p 5) (t.1 103 (10 * r + 8)) 1 120 ∧ EqB (s.1 p 6) (t.1 103 (10 * r + 9)) 1 30 ∧ (t.1 103 (10 * r + 4)).toInt ≤ (t.1 103 (10 * r + 3)).toInt
def PLt (p r i : Nat) (s t : HS) : Prop :=
  EqB (s.1 (tS p i) 1) (t.1 108 (5 * r + i)) 0 2 ∧ EqB (s.1 (tS p i) 2) (t.1 109 (5 * r + i)) 1 60 ∧ EqB (s.1 (tS p i) 3) (t.1 110 (5 * r + i)) 1 99 ∧ EqB (s.1 (tS p i) 4) (t.1 111 (5 * r + i)) 0 99 ∧ EqB (s.1 (tS p i) 5) (t.1 112 (5 * r + i)) 0 20
def PLb (p r c h i : Nat) (s t : HS) : Prop :=
  EqB (s.1 (bS p i) 1) (t.1 113 (6 * r + i)) 0 2 ∧ EqB (s.1 (bS p i) 2) (t.1 114 (6 * r + i)) 0 (c - 1) ∧ EqB (s.1 (bS p i) 3) (t.1 115 (6 * r + i)) 0 10 ∧ EqB (s.1 (bS p i) 4) (t.1 116 (6 * r + i)) 0 99 ∧
  ∃ m, 1 ≤ m ∧ m ≤ 3 ∧ s.1 (bS p i) 6 = I m ∧ t.1 118 (6 * r + i) = I m ∧ (∀ k, k < m → EqB (s.1 (Rf (bS p i) 5) k) (t.1 117 (3 * (6 * r + i) + k)) 0 (h - 1)) ∧
    (∀ k, k < m → ∀ k', k' < m → t.1 117 (3 * (6 * r + i) + k) = t.1 117 (3 * (6 * r + i) + k') → k = k') ∧ s.1 (bS p i) 7 = wbits (fun k => t.1 117 (3 * (6 * r + i) + k)) m
def PL (p r c h n : Nat) (s t : HS) : Prop :=
  okX4 p = true ∧ (c ≤ 6 ∧ h ≤ 5 ∧ n ≤ 6) ∧ (s.1 p 9 = I c ∧ t.1 103 (10 * r) = I c) ∧ (s.1 p 12 = I h ∧ t.1 103 (10 * r + 1) = I h) ∧ (s.1 p 14 = I n ∧ t.1 103 (10 * r + 2) = I n) ∧ PLsc p r s t ∧
  (∀ i, i < c → EqB (s.1 (Rf p 11) i) (t.1 107 (6 * r + i)) 0 200) ∧ (∀ i, i < h → PLt p r i s t) ∧ (∀ i, i < n → PLb p r c h i s t) ∧ (∀ m, m < 4 → EqB (s.1 (Rf p 7) m) (t.1 119 (4 * r + m)) 0 10)
/-- the hand: the class's State a, the reference's s -/
def HR (a h n : Nat) (s t : HS) : Prop :=
  okX7 a = true ∧ EqB (s.1 a 0) (t.1 145 0) 0 (2 ^ n - 1) ∧ EqB (s.1 a 1) (t.1 145 1) 1 (t.1 103 3).toInt ∧ EqB (s.1 a 2) (t.1 145 2) 0 200 ∧ EqB (s.1 a 3) (t.1 145 3) 1 2 ∧ ∀ i, i < h → EqB (s.1 (Rf a 4) i) (t.1 145 (4 + i)) 0 99
/-- how a round is to be played -/
def QR (h n : Nat) (s t : HS) : Prop :=
  EqB (s.1 73 2) (t.1 101 61) 0 2 ∧
  ((s.1 73 4 = -1 ∧ t.1 101 62 = -1) ∨ ∃ k, k < n ∧ s.1 73 4 = I k ∧ t.1 101 62 = I k ∧ s.1 73 3 = t.1 101 63 ∧ ((t.1 101 63) >>> (I k &&& 31)) &&& (1 : Int32) = 1 ∧ s.1 73 5 = -1) ∧
  ((s.1 73 5 = -1 ∧ t.1 101 64 = -1) ∨ ∃ k, k < h ∧ s.1 73 5 = I k ∧ t.1 101 64 = I k ∧ EqB (s.1 73 7) (t.1 101 66) 0 3)
/-- objects of the plan p that are read -/
def av1 (p : Nat) (L : List (Nat × Nat)) : Bool := (List.range 26).all (fun k => k == 4 || !wo L (p + k))
def av2 (L : List (Nat × Nat)) : Bool := (List.range 17).all (fun k => !wo L (103 + k))
theorem av1_o {p : Nat} {L : List (Nat × Nat)} {s s' : HS} (h : av1 p L = true) (f : Fr L s s') {k : Nat} (hk : k < 26) (h4 : k ≠ 4) : s'.1 (p + k) = s.1 (p + k) := by
  have := List.all_eq_true.mp h k (List.mem_range.mpr hk)
  simp only [Bool.or_eq_true, beq_iff_eq, Bool.not_eq_true'] at this
  exact f.o (this.resolve_left h4)
theorem av1_l {p : Nat} {L : List (Nat × Nat)} {s s' : HS} (h : av1 p L = true) (f : Fr L s s') {k : Nat} (hk : k < 26) (h4 : k ≠ 4) : s'.2.1 (p + k) = s.2.1 (p + k) := by
  have := List.all_eq_true.mp h k (List.mem_range.mpr hk)
  simp only [Bool.or_eq_true, beq_iff_eq, Bool.not_eq_true'] at this
  exact f.l (this.resolve_left h4)
theorem av2_o {L : List (Nat × Nat)} {s s' : HS} (h : av2 L = true) (f : Fr L s s') {k : Nat} (hk : k < 17) : s'.1 (103 + k) = s.1 (103 + k) := by
  have := List.all_eq_true.mp h k (List.mem_range.mpr hk)
  simp only [Bool.not_eq_true'] at this
  exact f.o this
theorem av2_l {L : List (Nat × Nat)} {s s' : HS} (h : av2 L = true) (f : Fr L s s') {k : Nat} (hk : k < 17) : s'.2.1 (103 + k) = s.2.1 (103 + k) := by
  have := List.all_eq_true.mp h k (List.mem_range.mpr hk)
  simp only [Bool.not_eq_true'] at this
  exact f.l this
theorem tS_e {p i : Nat} (hp : okX4 p = true) (hi : i < 5) : tS p i = p + (9 + i) := by
  rcases okX4_c hp with rfl | rfl <;> (revert i; decide)
theorem bS_e {p i : Nat} (hp : okX4 p = true) (hi : i < 6) : bS p i = p + (14 + 2 * i) := by
  rcases okX4_c hp with rfl | rfl <;> (revert i; decide)
theorem wS_e {p i : Nat} (hp : okX4 p = true) (hi : i < 6) : Rf (bS p i) 5 = p + (15 + 2 * i) := by
  rcases okX4_c hp with rfl | rfl <;> (revert i; decide)
theorem yS_e {p : Nat} (hp : okX4 p = true) : Rf p 11 = p + 6 := by rcases okX4_c hp with rfl | rfl <;> decide
theorem lS_e {p : Nat} (hp : okX4 p = true) : Rf p 7 = p + 1 := by rcases okX4_c hp with rfl | rfl <;> decide
theorem PL.fr {p r c h n : Nat} {s t s' t' : HS} {L M : List (Nat × Nat)} (P : PL p r c h n s t) (f : Fr L s s') (g : Fr M t t') (h1 : av1 p L = true) (h2 : av2 M = true) : PL p r c h n s' t' := by
  obtain ⟨a1, a2, a3, a4, a5, a6, a7, a8, a9, a10⟩ := P
  have e0 := av1_o h1 f (k := 0) (by omega) (by omega)
  rw [Nat.add_zero] at e0
  have m0 : t'.1 103 = t.1 103 := av2_o h2 g (k := 0) (by omega)
  have m4 : t'.1 107 = t.1 107 := av2_o h2 g (k := 4) (by omega)
  have m5 : t'.1 108 = t.1 108 := av2_o h2 g (k := 5) (by omega)
  have m6 : t'.1 109 = t.1 109 := av2_o h2 g (k := 6) (by omega)
  have m7 : t'.1 110 = t.1 110 := av2_o h2 g (k := 7) (by omega)
  have m8 : t'.1 111 = t.1 111 := av2_o h2 g (k := 8) (by omega)
  have m9 : t'.1 112 = t.1 112 := av2_o h2 g (k := 9) (by omega)
  have m10 : t'.1 113 = t.1 113 := av2_o h2 g (k := 10) (by omega)
  have m11 : t'.1 114 = t.1 114 := av2_o h2 g (k := 11) (by omega)
  have m12 : t'.1 115 = t.1 115 := av2_o h2 g (k := 12) (by omega)
  have m13 : t'.1 116 = t.1 116 := av2_o h2 g (k := 13) (by omega)
  have m14 : t'.1 117 = t.1 117 := av2_o h2 g (k := 14) (by omega)
  have m15 : t'.1 118 = t.1 118 := av2_o h2 g (k := 15) (by omega)
  have m16 : t'.1 119 = t.1 119 := av2_o h2 g (k := 16) (by omega)
  have y := av1_o h1 f (k := 6) (by omega) (by omega)
  have l := av1_o h1 f (k := 1) (by omega) (by omega)
  refine ⟨a1, a2, by rw [e0, m0]; exact a3, by rw [e0, m0]; exact a4, by rw [e0, m0]; exact a5, ?_, ?_, ?_, ?_, ?_⟩
  · unfold PLsc; rw [e0, m0]; exact a6
  · rw [yS_e a1, y, m4, ← yS_e a1]; exact a7
  · intro i hi
    have q := av1_o h1 f (k := 9 + i) (by omega) (by omega)
    have := a8 i hi
    unfold PLt at this ⊢
    rw [tS_e a1 (by omega)] at this ⊢
    rw [q, m5, m6, m7, m8, m9]; exact this
  · intro i hi
    have q := av1_o h1 f (k := 14 + 2 * i) (by omega) (by omega)
    have q2 := av1_o h1 f (k := 15 + 2 * i) (by omega) (by omega)
    have := a9 i hi
    unfold PLb at this ⊢
    rw [wS_e a1 (by omega), bS_e a1 (by omega)] at this ⊢
    rw [q, q2, m10, m11, m12, m13, m14, m15]; exact this
  · rw [lS_e a1, l, m16, ← lS_e a1]; exact a10
theorem okX7_4 {a : Nat} (h : okX7 a = true) : Rf a 4 = a + 1 := by rcases okX7_c h with rfl | rfl | rfl | rfl | rfl | rfl <;> decide
theorem HR.fr {a h n : Nat} {s t s' t' : HS} {L M : List (Nat × Nat)} (P : HR a h n s t) (f : Fr L s s') (g : Fr M t t') (h1 : wo L a = false ∧ wo L (a + 1) = false) (h2 : wo M 145 = false ∧ wo M 103 = false) : HR a h n s' t' := by
  obtain ⟨a1, a2, a3, a4, a5, a6⟩ := P
  refine ⟨a1, by rw [f.o h1.1, g.o h2.1]; exact a2, by rw [f.o h1.1, g.o h2.1, g.o h2.2]; exact a3, by rw [f.o h1.1, g.o h2.1]; exact a4, by rw [f.o h1.1, g.o h2.1]; exact a5, ?_⟩
  rw [okX7_4 a1, f.o h1.2, g.o h2.1, ← okX7_4 a1]; exact a6
def avq1 (L : List (Nat × Nat)) : Bool := [2, 3, 4, 5, 7].all (fun k => !wm L 73 k)
def avq2 (L : List (Nat × Nat)) : Bool := [61, 62, 63, 64, 66].all (fun k => !wm L 101 k)
theorem QR.fr {h n : Nat} {s t s' t' : HS} {L M : List (Nat × Nat)} (P : QR h n s t) (f : Fr L s s') (g : Fr M t t') (h1 : avq1 L = true) (h2 : avq2 M = true) : QR h n s' t' := by
  simp only [avq1, avq2, List.all_cons, List.all_nil, Bool.and_true, Bool.and_eq_true, Bool.not_eq_true'] at h1 h2
  unfold QR
  rw [f.1 _ _ h1.1, f.1 _ _ h1.2.1, f.1 _ _ h1.2.2.1, f.1 _ _ h1.2.2.2.1, f.1 _ _ h1.2.2.2.2, g.1 _ _ h2.1, g.1 _ _ h2.2.1, g.1 _ _ h2.2.2.1, g.1 _ _ h2.2.2.2.1, g.1 _ _ h2.2.2.2.2]
  exact P
