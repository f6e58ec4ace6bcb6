/-! What both objects have in common between the calls -/
def kf (b : Nat) (l : List Nat) : Nat := l.foldl (fun a x => a * b + x) 0
def NMk (k w : Int64) : Prop := ∃ l : List Nat, (∀ x ∈ l, 1 ≤ x ∧ x ≤ 26) ∧ l.length ≤ 8 ∧ k = Int64.ofNat (kf 32 l) ∧ w = Int64.ofNat (kf 27 l)
def NMS (p r c h n : Nat) (s t : HS) : Prop := (∀ i, i < c → NMk (s.2.1 (Rf p 10) i) (t.2.1 104 (6 * r + i))) ∧ (∀ i, i < h → NMk (s.2.1 (tS p i) 0) (t.2.1 105 (5 * r + i))) ∧ (∀ i, i < n → NMk (s.2.1 (bS p i) 0) (t.2.1 106 (6 * r + i)))
def TP (s t : HS) : Prop := ∃ L, L ≤ 1000 ∧ s.1 36 1 = I L ∧ t.1 101 1 = I L ∧ ∀ i, i < L → s.1 37 i = t.1 102 i ∧ 0 ≤ (t.1 102 i).toInt ∧ (t.1 102 i).toInt ≤ 126
/-- a line of the DAYS, in both -/
def LNi (h n : Nat) (w x y W A N : Int32) : Prop :=
  (w = 3 ∧ ∃ k, k < n ∧ x = I k ∧ A = I k ∧ ((y = 1 ∧ W = 0) ∨ (y = 0 ∧ W = 1))) ∨ (w = 0 ∧ W = 2 ∧ EqB y N 1 900) ∨ (w = 1 ∧ W = 3 ∧ EqB y N 0 200) ∨ (w = 2 ∧ W = 4 ∧ EqB y N 1 2) ∨ (w = 4 ∧ W = 5 ∧ EqB y N 0 99 ∧ ∃ k, k < h ∧ x = I k ∧ A = I k) ∨ (w = 5 ∧ W = 6)
def LN (a r h n : Nat) (s t : HS) : Prop := ∃ m, m ≤ 40 ∧ s.1 a 6 = I m ∧ t.1 135 r = I m ∧ ∀ i, i < m → LNi h n (s.1 (a + 2) (3 * i)) (s.1 (a + 2) (3 * i + 1)) (s.1 (a + 2) (3 * i + 2)) (t.1 136 (40 * r + i)) (t.1 137 (40 * r + i)) (t.1 138 (40 * r + i))
def SO (a r : Nat) (s t : HS) : Prop := ∃ m, m ≤ 10 ∧ s.1 a 8 = I m ∧ t.1 139 r = I m ∧ ∀ i, i < m → s.1 (a + 3) (2 * i) = t.1 140 (10 * r + i) ∧ s.1 (a + 3) (2 * i + 1) = t.1 141 (10 * r + i)
def SE (a r : Nat) (s t : HS) : Prop := ∃ m, m ≤ 6 ∧ s.1 a 10 = I m ∧ t.1 142 r = I m ∧ ∀ i, i < m → s.1 (a + 4) (2 * i) = t.1 143 (6 * r + i) ∧ s.1 (a + 4) (2 * i + 1) = t.1 144 (6 * r + i)
def DT (a r h n : Nat) (s t : HS) : Prop := LN a r h n s t ∧ SO a r s t ∧ SE a r s t
def HRm (a b h n : Nat) (s t : HS) : Prop := EqB (s.1 a 0) (t.1 147 b) 0 (2 ^ n - 1) ∧ EqB (s.1 a 1) (t.1 147 (b + 1)) 1 (t.1 103 3).toInt ∧ EqB (s.1 a 2) (t.1 147 (b + 2)) 0 200 ∧ EqB (s.1 a 3) (t.1 147 (b + 3)) 1 2 ∧ ∀ i, i < h → EqB (s.1 (a + 1) i) (t.1 147 (b + (4 + i))) 0 99
def mS (m : Nat) : Nat := 81 + 5 * m
def MK (h n : Nat) (s t : HS) : Prop := ∀ m, m < 4 → s.1 (mS m) 11 = t.1 149 m ∧ (t.1 149 m = 0 ∨ t.1 149 m = 1) ∧ (t.1 149 m = 1 → HRm (mS m) (9 * m) h n s t ∧ DT (mS m) (1 + m) h n s t)
/-- one step back: the row ahead R, the row behind it R', by hand w x y -/
def UNi (h n : Nat) (stop : Int) (w x y : Int32) (R R' : Nat → Int32) : Prop :=
  (w = 0 ∧ EqB y (R 1) 1 stop ∧ ∀ q, q < 9 → q ≠ 1 → R q = R' q) ∨ (w = 1 ∧ EqB y (R 2) 0 200 ∧ ∀ q, q < 9 → q ≠ 2 → R q = R' q) ∨ (w = 2 ∧ EqB y (R 3) 1 2 ∧ ∀ q, q < 9 → q ≠ 3 → R q = R' q) ∨
  (w = 4 ∧ ∃ k, k < h ∧ x = I k ∧ EqB y (R (4 + k)) 0 99 ∧ ∀ q, q < 9 → q ≠ 4 + k → R q = R' q) ∨
  (w = 3 ∧ ∃ k, k < n ∧ x = I k ∧ R 0 = R' 0 ^^^ ((1 : Int32) <<< (I k &&& 31)) ∧ y = ((R 0) >>> (I k &&& 31)) &&& 1 ∧ (0 ≤ (R 0).toInt ∧ (R 0).toInt ≤ 2 ^ n - 1) ∧ ∀ q, q < 9 → q ≠ 0 → R q = R' q)
def UN (h n : Nat) (s t : HS) : Prop := ∃ m, m ≤ 16 ∧ s.1 1 10 = I m ∧ t.1 101 60 = I m ∧ ∀ k, k < m → UNi h n (t.1 103 3).toInt (s.1 34 (3 * k)) (s.1 34 (3 * k + 1)) (s.1 34 (3 * k + 2)) (fun q => t.1 148 (9 * k + q)) (fun q => if k + 1 < m then t.1 148 (9 * (k + 1) + q) else t.1 145 q)
def Rel (p d c h n : Nat) (s t : HS) : Prop := (s.2.2.1 = p ∧ s.2.2.2.1 = d ∧ okX4 d = true ∧ d ≠ p) ∧ PL p 0 c h n s t ∧ HR 64 h n s t ∧ OR p s t ∧ NMS p 0 c h n s t ∧ (t.1 101 61 = 0 ∧ t.1 101 62 = -1 ∧ t.1 101 64 = -1) ∧ TP s t ∧ DT 64 0 h n s t ∧ MK h n s t ∧ UN h n s t
def avR1 (p : Nat) (L : List (Nat × Nat)) : Bool := av1 p L && ([34, 37, 64, 65, 66, 67, 68].all (fun o => !wo L o) && ((List.range 20).all (fun k => !wo L (81 + k)) && (!wm L 1 10 && (!wm L 36 1 && (!wm L 0 1 && !wm L 0 2)))))
def avR2 (M : List (Nat × Nat)) : Bool := av2 M && ([104, 105, 106, 102, 120, 121, 122, 135, 136, 137, 138, 139, 140, 141, 142, 143, 144, 145, 147, 148, 149].all (fun o => !wo M o) && (!wm M 101 1 && (!wm M 101 60 && (!wm M 101 61 && (!wm M 101 62 && !wm M 101 64)))))
section REL
variable {p d c h n : Nat} {s t s' t' : HS} {L M : List (Nat × Nat)}
theorem avR1_e (H : avR1 p L = true) : av1 p L = true ∧ (wo L 34 = false ∧ wo L 37 = false ∧ wo L 64 = false ∧ wo L 65 = false ∧ wo L 66 = false ∧ wo L 67 = false ∧ wo L 68 = false) ∧ (∀ k, k < 20 → wo L (81 + k) = false) ∧ wm L 1 10 = false ∧ wm L 36 1 = false ∧ wm L 0 1 = false ∧ wm L 0 2 = false := by
  unfold avR1 at H
  simp only [Bool.and_eq_true, Bool.not_eq_true', List.all_cons, List.all_nil, and_true] at H
  obtain ⟨h1, h2, h3, h4, h5, h6, h7⟩ := H
  refine ⟨h1, h2, fun k hk => ?_, h4, h5, h6, h7⟩
  have := List.all_eq_true.mp h3 k (List.mem_range.mpr hk)
  simpa using this
theorem avR2_e (H : avR2 M = true) : av2 M = true ∧ (wo M 104 = false ∧ wo M 105 = false ∧ wo M 106 = false ∧ wo M 102 = false ∧ wo M 120 = false ∧ wo M 121 = false ∧ wo M 122 = false ∧ wo M 135 = false ∧ wo M 136 = false ∧ wo M 137 = false ∧ wo M 138 = false ∧ wo M 139 = false ∧ wo M 140 = false ∧ wo M 141 = false ∧ wo M 142 = false ∧ wo M 143 = false ∧ wo M 144 = false ∧ wo M 145 = false ∧ wo M 147 = false ∧ wo M 148 = false ∧ wo M 149 = false) ∧ wm M 101 1 = false ∧ wm M 101 60 = false ∧ wm M 101 61 = false ∧ wm M 101 62 = false ∧ wm M 101 64 = false := by
  unfold avR2 at H
  simp only [Bool.and_eq_true, Bool.not_eq_true', List.all_cons, List.all_nil, and_true] at H
  exact H
theorem cS_e {p : Nat} (hp : okX4 p = true) : Rf p 10 = p + 5 := by rcases okX4_c hp with rfl | rfl <;> decide
theorem NMS.fr {r : Nat} (N : NMS p r c h n s t) (hp : okX4 p = true) (hn : c ≤ 6 ∧ h ≤ 5 ∧ n ≤ 6) (f : Fr L s s') (g : Fr M t t') (h1 : av1 p L = true) (h2 : wo M 104 = false ∧ wo M 105 = false ∧ wo M 106 = false) : NMS p r c h n s' t' := by
  obtain ⟨n1, n2, n3⟩ := N
  refine ⟨fun i hi => ?_, fun i hi => ?_, fun i hi => ?_⟩
  · have := n1 i hi
    rw [cS_e hp] at this ⊢
    rw [av1_l h1 f (k := 5) (by omega) (by omega), g.l h2.1]; exact this
  · have := n2 i hi
    rw [tS_e hp (by omega)] at this ⊢
    rw [av1_l h1 f (k := 9 + i) (by omega) (by omega), g.l h2.2.1]; exact this
  · have := n3 i hi
    rw [bS_e hp (by omega)] at this ⊢
    rw [av1_l h1 f (k := 14 + 2 * i) (by omega) (by omega), g.l h2.2.2]; exact this
theorem DT.fr {a r : Nat} (D : DT a r h n s t) (f : Fr L s s') (g : Fr M t t') (h1 : wo L a = false ∧ wo L (a + 2) = false ∧ wo L (a + 3) = false ∧ wo L (a + 4) = false)
    (h2 : wo M 135 = false ∧ wo M 136 = false ∧ wo M 137 = false ∧ wo M 138 = false ∧ wo M 139 = false ∧ wo M 140 = false ∧ wo M 141 = false ∧ wo M 142 = false ∧ wo M 143 = false ∧ wo M 144 = false) : DT a r h n s' t' := by
  obtain ⟨a1, a2, a3, a4⟩ := h1
  obtain ⟨m1, m2, m3, m4, m5, m6, m7, m8, m9, m10⟩ := h2
  unfold DT LN SO SE
  rw [f.o a1, f.o a2, f.o a3, f.o a4, g.o m1, g.o m2, g.o m3, g.o m4, g.o m5, g.o m6, g.o m7, g.o m8, g.o m9, g.o m10]
  exact D
theorem Rel.fr (R : Rel p d c h n s t) (f : Fr L s s') (g : Fr M t t') (h1 : avR1 p L = true) (h2 : avR2 M = true) : Rel p d c h n s' t' := by
  obtain ⟨⟨r1, r2, r3, r4⟩, b1, b2, b3, b4, b5, b6, b7, b8, b9⟩ := R
  obtain ⟨e1, ⟨e2, e3, e4, e5, e6, e7, e8⟩, e9, e10, e11, e12, e13⟩ := avR1_e h1
  obtain ⟨m1, ⟨m2, m3, m4, m5, m6, m7, m8, m9, m10, m11, m12, m13, m14, m15, m16, m17, m18, m19, m20, m21, m22⟩, m23, m24, m25, m26, m27⟩ := avR2_e h2
  have o103 : t'.1 103 = t.1 103 := av2_o m1 g (k := 0) (by omega)
  have hn := b1.n6
  have w103 : wo M 103 = false := by
    have := List.all_eq_true.mp m1 0 (by decide)
    simpa using this
  refine ⟨⟨by rw [f.2.2.1 e12]; exact r1, by rw [f.2.2.2.1 e13]; exact r2, r3, r4⟩, b1.fr f g e1 m1, b2.fr f g ⟨e4, e5⟩ ⟨m19, w103⟩, b3.fr b1.1 f g e1 (by simp [av4, m6, m7, m8]), b4.fr b1.1 hn f g e1 ⟨m2, m3, m4⟩, by rw [g.1 _ _ m25, g.1 _ _ m26, g.1 _ _ m27]; exact b5, ?_, b7.fr f g ⟨e4, e6, e7, e8⟩ ⟨m9, m10, m11, m12, m13, m14, m15, m16, m17, m18⟩, ?_, ?_⟩
  · unfold TP
    rw [f.1 _ _ e11, g.1 _ _ m23, f.o e3, g.o m5]; exact b6
  · intro m hm
    obtain ⟨q1, q2, q3⟩ := b8 m hm
    have z : ∀ j, j < 5 → wo L (mS m + j) = false := fun j hj => by
      have := e9 (5 * m + j) (by omega)
      rw [show mS m + j = 81 + (5 * m + j) from by unfold mS; omega]; exact this
    have z0 := z 0 (by omega)
    rw [Nat.add_zero] at z0
    refine ⟨by rw [f.o z0, g.o m22]; exact q1, by rw [g.o m22]; exact q2, fun w => ?_⟩
    rw [g.o m22] at w
    obtain ⟨v1, v2⟩ := q3 w
    refine ⟨?_, v2.fr f g ⟨z0, z 2 (by omega), z 3 (by omega), z 4 (by omega)⟩ ⟨m9, m10, m11, m12, m13, m14, m15, m16, m17, m18⟩⟩
    unfold HRm
    rw [f.o z0, f.o (z 1 (by omega)), g.o m20, o103]; exact v1
  · unfold UN
    rw [f.1 _ _ e10, g.1 _ _ m24, f.o e2, g.o m21, g.o m19, o103]; exact b9
end REL
