/-! Who is served next -/
def SRi (i : Nat) (s t : HS) : Prop := f_X12_comesAt (I i) t = some (s.1 74 i) ∧ (0 ≤ (s.1 74 i).toInt ∧ (s.1 74 i).toInt ≤ 600) ∧ f_X12_goesAt (I i) t = some (s.1 75 i) ∧ (0 ≤ (s.1 75 i).toInt ∧ (s.1 75 i).toInt ≤ (t.1 103 3).toInt) ∧
  s.1 76 i = t.1 150 i ∧ (t.1 150 i = -1 ∨ 0 ≤ (t.1 150 i).toInt) ∧ s.1 77 i = t.1 151 i ∧ (t.1 151 i = -1 ∨ (0 ≤ (t.1 151 i).toInt ∧ (t.1 151 i).toInt ≤ 5000)) ∧ ((s.1 73 16) >>> (I i &&& 31)) &&& 1 = t.1 155 i ∧ (t.1 150 i = -1 → t.1 155 i = 0)
def SR (p a c h n : Nat) (s t : HS) : Prop := PL p 0 c h n s t ∧ s.2.2.2.2.1 = p ∧ s.2.2.2.2.2.1 = a ∧ HR a h n s t ∧ QR h n s t ∧ OR p s t ∧ (∀ i, i < n → SRi i s t) ∧
  (∀ w, w < 2 → s.1 80 w = t.1 156 w ∧ 0 ≤ (t.1 156 w).toInt) ∧ (t.1 101 64 = -1 ∨ EqB (s.1 73 6) (t.1 101 65) 0 12) ∧ ∃ k, k < 2 ^ n ∧ s.1 73 16 = I k
def av5 (p a : Nat) (L : List (Nat × Nat)) : Bool := av1 p L && (!wo L a && !wo L (a + 1)) && avq1 L && !wm L 0 3 && !wm L 0 4
def av6 (L : List (Nat × Nat)) : Bool := !wo L 74 && !wo L 75 && !wo L 76 && !wo L 77 && !wm L 73 16 && !wo L 80 && !wm L 73 6
def av7 (M : List (Nat × Nat)) : Bool := av3 M && avq2 M && av4 M
def av8 (M : List (Nat × Nat)) : Bool := !wo M 150 && !wo M 151 && !wo M 155 && !wo M 156 && !wm M 101 65
theorem av5_e {p a : Nat} {L : List (Nat × Nat)} (h : av5 p a L = true) : av1 p L = true ∧ (wo L a = false ∧ wo L (a + 1) = false) ∧ avq1 L = true ∧ wm L 0 3 = false ∧ wm L 0 4 = false := by
  simp only [av5, Bool.and_eq_true, Bool.not_eq_true'] at h
  exact ⟨h.1.1.1.1, h.1.1.1.2, h.1.1.2, h.1.2, h.2⟩
theorem av7_e {M : List (Nat × Nat)} (h : av7 M = true) : av3 M = true ∧ avq2 M = true ∧ av4 M = true := by
  simp only [av7, Bool.and_eq_true] at h
  exact ⟨h.1.1, h.1.2, h.2⟩
section NEXT
variable {p a c h n : Nat} {s t s' t' : HS} {L M : List (Nat × Nat)}
theorem SR.fr (S : SR p a c h n s t) (f : Fr L s s') (g : Fr M t t') (h1 : av5 p a L = true) (h2 : av6 L = true) (h3 : av7 M = true) (h4 : av8 M = true) : SR p a c h n s' t' := by
  obtain ⟨b1, b2, b3, b4, b5, b6, b7, b8, b9, b10⟩ := S
  obtain ⟨i1, i2, i3, i4, i5⟩ := av5_e h1
  obtain ⟨j1, j2, j3⟩ := av7_e h3
  obtain ⟨j4, j5⟩ := av3_e j1
  simp only [av6, Bool.and_eq_true, Bool.not_eq_true'] at h2
  simp only [av8, Bool.and_eq_true, Bool.not_eq_true'] at h4
  obtain ⟨⟨⟨⟨⟨⟨k1, k2⟩, k3⟩, k4⟩, k5⟩, k6⟩, k7⟩ := h2
  obtain ⟨⟨⟨⟨l1, l2⟩, l3⟩, l4⟩, l5⟩ := h4
  have m0 : t'.1 103 = t.1 103 := av2_o j4 g (k := 0) (by omega)
  refine ⟨b1.fr f g i1 j4, by rw [f.2.2.2.2.1 i4]; exact b2, by rw [f.2.2.2.2.2.1 i5]; exact b3, b4.fr f g i2 ⟨j5, by
    have := List.all_eq_true.mp j4 0 (by decide)
    simpa using this⟩, b5.fr f g i3 j2, b6.fr b1.1 f g i1 j3, ?_, ?_, ?_, ?_⟩
  · intro i hi
    have := b7 i hi
    unfold SRi at this ⊢
    rw [comes_fr g j1, goes_fr g j1, f.o k1, f.o k2, f.o k3, f.o k4, f.1 _ _ k5, g.o l1, g.o l2, g.o l3, m0]
    exact this
  · rw [f.o k6, g.o l4]; exact b8
  · have e : t'.1 101 64 = t.1 101 64 := by
      simp only [avq2, List.all_cons, List.all_nil, Bool.and_true, Bool.and_eq_true, Bool.not_eq_true'] at j2
      exact g.1 _ _ j2.2.2.2.1
    rw [e, f.1 _ _ k7, g.1 _ _ l5]; exact b9
  · rw [f.1 _ _ k5]; exact b10
def waits (i : Nat) (T : Int32) (s t : HS) : Prop := ¬ ((t.1 145 0) >>> (I i &&& 31)) &&& (1 : Int32) = 0 ∧ t.1 150 i = -1 ∧ ¬ T < s.1 74 i ∧ T < s.1 75 i
theorem waits_fr (f : Fr L s s') (g : Fr M t t') (h1 : wo L 74 = false ∧ wo L 75 = false) (h2 : wo M 145 = false ∧ wo M 150 = false) {i : Nat} {T : Int32} : waits i T s' t' ↔ waits i T s t := by
  unfold waits
  rw [f.o h1.1, f.o h1.2, g.o h2.1, g.o h2.2]
theorem okX7_av : ∀ a, a = 28 ∨ a = 64 ∨ a = 81 ∨ a = 86 ∨ a = 91 ∨ a = 96 → (∀ p, p = 2 ∨ p = 38 → av5 p a L_X6_rankOf = true ∧ av5 p a L_X6_nextServed = true) := by
  intro a ha p hp
  rcases ha with rfl | rfl | rfl | rfl | rfl | rfl <;> rcases hp with rfl | rfl <;> exact ⟨by decide +kernel, by decide +kernel⟩
theorem w_who {n : Nat} (hn : n ≤ 6) {w : Int32} (h : w = -1 ∨ ∃ j, j < n ∧ w = I j) : (w < 0 ↔ w = -1) := by
  refine neg1 (h.imp_right ?_)
  rintro ⟨j, hj, rfl⟩
  rw [I_toInt (by omega)]; omega
/-- one row of the choice -/
theorem r_next_l (S : SR p a c h n s t) (T : Int32) : ∀ d k, k + d = n → ∀ (s t : HS), SR p a c h n s t → ∀ w l, (w = -1 ∨ ∃ j, j < n ∧ w = I j ∧ waits j T s t) → ∀ f g, d < f → d < g →
    ∃ w' u v, f_X6_nextServed_l7 T f w l (I k) s = some (w', u) ∧ f_X12_nextAt_l7 T g w l (I k) t = some (w', v) ∧ (w' = -1 ∨ ∃ j, j < n ∧ w' = I j ∧ waits j T s t) ∧ (w' = -1 → w = -1 ∧ ∀ j, k ≤ j → j < n → ¬ waits j T s t) := by
  have hn := S.1.n6
  intro d
  induction d with
  | zero =>
    intro k hk s t S w l hw f g hf hg
    obtain ⟨f', rfl⟩ : ∃ f', f = f' + 1 := ⟨f - 1, by omega⟩
    obtain ⟨g', rfl⟩ : ∃ g', g = g' + 1 := ⟨g - 1, by omega⟩
    have hk : k = n := by omega
    subst hk
    refine ⟨w, s, t, ?_, ?_, hw, fun e => ⟨e, fun j h1 h2 => by omega⟩⟩
    · simp only [f_X6_nextServed_l7, f_X6_nextServed_l7b, S.2.1, S.1.1, gd_t, S.1.nc, if_pos (Int32.le_refl _)]
    · simp only [f_X12_nextAt_l7, f_X12_nextAt_l7b, S.1.nm, if_pos (Int32.le_refl _)]
  | succ d ih =>
    intro k hk s t S w l hw f g hf hg
    obtain ⟨f', rfl⟩ : ∃ f', f = f' + 1 := ⟨f - 1, by omega⟩
    obtain ⟨g', rfl⟩ : ∃ g', g = g' + 1 := ⟨g - 1, by omega⟩
    obtain ⟨b1, b2, b3, b4, b5, b6, b7, b8, b9, b10⟩ := id S
    have hkn : k < n := by omega
    have hk2 : ¬ I n ≤ I k := by rw [I_le (by omega) (by omega)]; omega
    have kk : (I k).toNatClampNeg = k := I_nat (by omega)
    have k6 : inb (I k) 6 = true := inb_t (by omega) (by omega)
    obtain ⟨c1, c2, c3, c4, c5, c6, -⟩ := b7 k hkn
    have o1 : s.1 a 0 = t.1 145 0 := b4.2.1.1
    -- who is passed over
    have skip : ¬ waits k T s t → f_X6_nextServed_l7 T (f' + 1) w l (I k) s = f_X6_nextServed_l7 T f' w l (I (k + 1)) s → f_X12_nextAt_l7 T (g' + 1) w l (I k) t = f_X12_nextAt_l7 T g' w l (I (k + 1)) t → ∃ w' u v, f_X6_nextServed_l7 T (f' + 1) w l (I k) s = some (w', u) ∧ f_X12_nextAt_l7 T (g' + 1) w l (I k) t = some (w', v) ∧ (w' = -1 ∨ ∃ j, j < n ∧ w' = I j ∧ waits j T s t) ∧ (w' = -1 → w = -1 ∧ ∀ j, k ≤ j → j < n → ¬ waits j T s t) := by
      intro nw e1 e2
      obtain ⟨w', u, v, d1, d2, d3, d4⟩ := ih (k + 1) (by omega) s t S w l hw f' g' (by omega) (by omega)
      refine ⟨w', u, v, e1.trans d1, e2.trans d2, d3, fun e => ⟨(d4 e).1, fun j h1 h2 => ?_⟩⟩
      by_cases z : j = k
      · subst z; exact nw
      · exact (d4 e).2 j (by omega) h2
    by_cases z1 : ((t.1 145 0) >>> (I k &&& 31)) &&& (1 : Int32) = 0
    · refine skip (fun q => q.1 z1) ?_ ?_
      · simp only [f_X6_nextServed_l7, f_X6_nextServed_l7b, f_X6_isOut, b2, b3, b1.1, b4.1, gd_t, b1.nc, if_neg hk2, o1, if_pos z1, bnd_t, if_true, f_X6_nextServed_j109, ltb_t, I_succ]
      · simp only [f_X12_nextAt_l7, f_X12_nextAt_l7b, b1.nm, if_neg hk2, if_pos z1, f_X12_nextAt_j113, ltb_t, I_succ]
    by_cases z2 : t.1 150 k = -1
    case neg =>
      have z2' : (0 : Int32) ≤ t.1 150 k := by rw [Int32.le_iff_toInt_le, Int32.toInt_zero]; exact c6.resolve_left z2
      refine skip (fun q => z2 q.2.1) ?_ ?_
      · simp only [f_X6_nextServed_l7, f_X6_nextServed_l7b, f_X6_isOut, b2, b3, b1.1, b4.1, gd_t, b1.nc, if_neg hk2, o1, if_neg z1, bnd_t, if_neg one_ne, k6, kk, c5, if_neg z2, f_X6_nextServed_j109, ltb_t, I_succ]
      · simp only [f_X12_nextAt_l7, f_X12_nextAt_l7b, b1.nm, if_neg hk2, if_neg z1, gd_t, k6, kk, if_pos z2', f_X12_nextAt_j113, ltb_t, I_succ]
    have z2' : ¬ (0 : Int32) ≤ t.1 150 k := by rw [z2]; decide
    by_cases z3 : T < s.1 74 k
    · refine skip (fun q => q.2.2.1 z3) ?_ ?_
      · simp only [f_X6_nextServed_l7, f_X6_nextServed_l7b, f_X6_isOut, b2, b3, b1.1, b4.1, gd_t, b1.nc, if_neg hk2, o1, if_neg z1, bnd_t, if_neg one_ne, k6, kk, c5, if_pos z2, if_pos z3, f_X6_nextServed_j109, ltb_t, I_succ]
      · simp only [f_X12_nextAt_l7, f_X12_nextAt_l7b, b1.nm, if_neg hk2, if_neg z1, gd_t, k6, kk, if_neg z2', c1, bnd_t, if_pos z3, f_X12_nextAt_j113, ltb_t, I_succ]
    by_cases z4 : T < s.1 75 k
    case neg =>
      have z4' : s.1 75 k ≤ T := Int32.not_lt.mp z4
      refine skip (fun q => z4 q.2.2.2) ?_ ?_
      · simp only [f_X6_nextServed_l7, f_X6_nextServed_l7b, f_X6_isOut, b2, b3, b1.1, b4.1, gd_t, b1.nc, if_neg hk2, o1, if_neg z1, bnd_t, if_neg one_ne, k6, kk, c5, if_pos z2, if_neg z3, if_pos z4', f_X6_nextServed_j109, ltb_t, I_succ]
      · simp only [f_X12_nextAt_l7, f_X12_nextAt_l7b, b1.nm, if_neg hk2, if_neg z1, gd_t, k6, kk, if_neg z2', c1, c3, bnd_t, if_neg z3, if_neg z4, f_X12_nextAt_j113, ltb_t, I_succ]
    have z4' : ¬ s.1 75 k ≤ T := Int32.not_le.mpr z4
    have wk : waits k T s t := ⟨z1, z2, z3, z4⟩
    obtain ⟨x, u, v, r1, r2⟩ := r_rank b1 b2 b3 b4 b5 b6 hkn c1 T
    have fu := w_X6_rankOf (I k) T s (x, u) r1
    have fv := w_X12_orderOf (I k) T t (x, v) r2
    have okc := okX7_c b4.1
    have okp := okX4_c b1.1
    have S2 : SR p a c h n u v := S.fr fu fv (okX7_av a okc p okp).1 (by decide +kernel) (by decide +kernel) (by decide +kernel)
    have hwt : ∀ {i}, waits i T u v ↔ waits i T s t := waits_fr fu fv (by decide +kernel) (by decide +kernel)
    have e74 : u.1 74 = s.1 74 := fu.o (by decide +kernel)
    have pre1 : f_X6_nextServed_l7 T (f' + 1) w l (I k) s = (if w = (-1) then f_X6_nextServed_j103 T (I k) x (f_X6_nextServed_l7 T f') u else (if x < l then f_X6_nextServed_j103 T (I k) x (f_X6_nextServed_l7 T f') u else (if x = l then gd (inb (I k) 6) (gd (inb w 6) ((if (u.1 74 w.toNatClampNeg) ≤ (u.1 74 (I k).toNatClampNeg) then f_X6_nextServed_j109 T w l (I k) (f_X6_nextServed_l7 T f') u else f_X6_nextServed_j103 T (I k) x (f_X6_nextServed_l7 T f') u))) else f_X6_nextServed_j109 T w l (I k) (f_X6_nextServed_l7 T f') u))) := by
      simp only [f_X6_nextServed_l7, f_X6_nextServed_l7b, f_X6_isOut, b2, b3, b1.1, b4.1, gd_t, b1.nc, if_neg hk2, o1, if_neg z1, bnd_t, if_neg one_ne, k6, kk, c5, if_pos z2, if_neg z3, if_neg z4', r1, bnd2_t]
    have pre2 : f_X12_nextAt_l7 T (g' + 1) w l (I k) t = (if w < 0 then f_X12_nextAt_j107 T (I k) x (f_X12_nextAt_l7 T g') v else (if l < x then f_X12_nextAt_j113 T w l (I k) (f_X12_nextAt_l7 T g') v else (if x = l then bnd (f_X12_comesAt (I k) v) fun y17 => bnd (f_X12_comesAt w v) fun y18 => (if y17 < y18 then f_X12_nextAt_j107 T (I k) x (f_X12_nextAt_l7 T g') v else f_X12_nextAt_j113 T w l (I k) (f_X12_nextAt_l7 T g') v) else f_X12_nextAt_j107 T (I k) x (f_X12_nextAt_l7 T g') v))) := by
      simp only [f_X12_nextAt_l7, f_X12_nextAt_l7b, b1.nm, if_neg hk2, if_neg z1, gd_t, k6, kk, if_neg z2', c1, c3, bnd_t, if_neg z3, if_pos z4, r2, bnd2_t]
    have take : f_X6_nextServed_l7 T (f' + 1) w l (I k) s = f_X6_nextServed_l7 T f' (I k) x (I (k + 1)) u → f_X12_nextAt_l7 T (g' + 1) w l (I k) t = f_X12_nextAt_l7 T g' (I k) x (I (k + 1)) v → ∃ w' u v, f_X6_nextServed_l7 T (f' + 1) w l (I k) s = some (w', u) ∧ f_X12_nextAt_l7 T (g' + 1) w l (I k) t = some (w', v) ∧ (w' = -1 ∨ ∃ j, j < n ∧ w' = I j ∧ waits j T s t) ∧ (w' = -1 → w = -1 ∧ ∀ j, k ≤ j → j < n → ¬ waits j T s t) := by
      intro e1 e2
      obtain ⟨w', u2, v2, d1, d2, d3, d4⟩ := ih (k + 1) (by omega) u v S2 (I k) x (Or.inr ⟨k, hkn, rfl, hwt.mpr wk⟩) f' g' (by omega) (by omega)
      refine ⟨w', u2, v2, e1.trans d1, e2.trans d2, ?_, fun e => absurd (d4 e).1 (I_nn (by omega))⟩
      rcases d3 with d3 | ⟨j, j1, j2, j3⟩
      · exact Or.inl d3
      · exact Or.inr ⟨j, j1, j2, hwt.mp j3⟩
    have leave : w ≠ -1 → f_X6_nextServed_l7 T (f' + 1) w l (I k) s = f_X6_nextServed_l7 T f' w l (I (k + 1)) u → f_X12_nextAt_l7 T (g' + 1) w l (I k) t = f_X12_nextAt_l7 T g' w l (I (k + 1)) v → ∃ w' u v, f_X6_nextServed_l7 T (f' + 1) w l (I k) s = some (w', u) ∧ f_X12_nextAt_l7 T (g' + 1) w l (I k) t = some (w', v) ∧ (w' = -1 ∨ ∃ j, j < n ∧ w' = I j ∧ waits j T s t) ∧ (w' = -1 → w = -1 ∧ ∀ j, k ≤ j → j < n → ¬ waits j T s t) := by
      intro nw e1 e2
      obtain ⟨w', u2, v2, d1, d2, d3, d4⟩ := ih (k + 1) (by omega) u v S2 w l (hw.imp_right fun ⟨j, j1, j2, j3⟩ => ⟨j, j1, j2, hwt.mpr j3⟩) f' g' (by omega) (by omega)
      refine ⟨w', u2, v2, e1.trans d1, e2.trans d2, ?_, fun e => absurd (d4 e).1 nw⟩
      rcases d3 with d3 | ⟨j, j1, j2, j3⟩
      · exact Or.inl d3
      · exact Or.inr ⟨j, j1, j2, hwt.mp j3⟩
    have wn := w_who hn.2.2 (hw.imp_right fun ⟨j, j1, j2, _⟩ => ⟨j, j1, j2⟩)
    by_cases y1 : w = -1
    · exact take (by rw [pre1, if_pos y1]; simp only [f_X6_nextServed_j103, f_X6_nextServed_j109, ltb_t, I_succ]) (by rw [pre2, if_pos (wn.mpr y1)]; simp only [f_X12_nextAt_j107, f_X12_nextAt_j113, ltb_t, I_succ])
    have y1' : ¬ w < 0 := fun z => y1 (wn.mp z)
    by_cases y2 : x < l
    · have y3 : ¬ l < x := Int32.not_lt.mpr (Int32.le_of_lt y2)
      have y4 : ¬ x = l := fun z => by rw [z] at y2; exact Int32.lt_irrefl y2
      exact take (by rw [pre1, if_neg y1, if_pos y2]; simp only [f_X6_nextServed_j103, f_X6_nextServed_j109, ltb_t, I_succ]) (by rw [pre2, if_neg y1', if_neg y3, if_neg y4]; simp only [f_X12_nextAt_j107, f_X12_nextAt_j113, ltb_t, I_succ])
    by_cases y3 : x = l
    case neg =>
      have y4 : l < x := by
        rcases Int32.le_total x l with z | z
        · exact absurd (Int32.lt_of_le_of_ne z y3) y2
        · exact Int32.lt_of_le_of_ne z (fun e => y3 e.symm)
      exact leave y1 (by rw [pre1, if_neg y1, if_neg y2, if_neg y3]; simp only [f_X6_nextServed_j109, ltb_t, I_succ]) (by rw [pre2, if_neg y1', if_pos y4]; simp only [f_X12_nextAt_j113, ltb_t, I_succ])
    have y4 : ¬ l < x := by rw [y3]; exact Int32.lt_irrefl
    obtain ⟨j, j1, j2, j3⟩ := hw.resolve_left y1
    obtain ⟨cj, -⟩ := b7 j j1
    have jj : (I j).toNatClampNeg = j := I_nat (by omega)
    have j6 : inb (I j) 6 = true := inb_t (by omega) (by omega)
    rw [if_neg y1, if_neg y2, if_pos y3, k6, gd_t, j2, j6, gd_t, jj, kk, e74] at pre1
    rw [if_neg y1', if_neg y4, if_pos y3, comes_fr fv (by decide +kernel), c1, bnd_t, j2, comes_fr fv (by decide +kernel), cj, bnd_t] at pre2
    by_cases y5 : s.1 74 k < s.1 74 j
    · have y6 : ¬ s.1 74 j ≤ s.1 74 k := Int32.not_le.mpr y5
      rw [if_neg y6] at pre1
      rw [if_pos y5] at pre2
      rw [j2] at take ⊢
      exact take (by rw [pre1]; simp only [f_X6_nextServed_j103, f_X6_nextServed_j109, ltb_t, I_succ]) (by rw [pre2]; simp only [f_X12_nextAt_j107, f_X12_nextAt_j113, ltb_t, I_succ])
    · have y6 : s.1 74 j ≤ s.1 74 k := Int32.not_lt.mp y5
      rw [if_pos y6] at pre1
      rw [if_neg y5] at pre2
      rw [j2] at leave y1 ⊢
      exact leave y1 (by rw [pre1]; simp only [f_X6_nextServed_j109, ltb_t, I_succ]) (by rw [pre2]; simp only [f_X12_nextAt_j113, ltb_t, I_succ])
theorem r_next (S : SR p a c h n s t) (T : Int32) : ∃ w u v, f_X6_nextServed T s = some (w, u) ∧ f_X12_nextAt T t = some (w, v) ∧ SR p a c h n u v ∧ Fr L_X6_nextServed s u ∧ Fr L_X12_nextAt t v ∧ (w = -1 ∨ ∃ j, j < n ∧ w = I j ∧ waits j T s t) ∧ (w = -1 → ∀ j, j < n → ¬ waits j T s t) := by
  obtain ⟨w, u, v, d1, d2, d3, d4⟩ := r_next_l S T n 0 (by omega) s t S (-1) 0 (Or.inl rfl) FU FU (FU_lt (by have := S.1.n6; omega)) (FU_lt (by have := S.1.n6; omega))
  rw [← I0] at d1 d2
  have fu := w_X6_nextServed T s (w, u) d1
  have fv := w_X12_nextAt T t (w, v) d2
  exact ⟨w, u, v, d1, d2, S.fr fu fv (okX7_av a (okX7_c S.2.2.2.1.1) p (okX4_c S.1.1)).2 (by decide +kernel) (by decide +kernel) (by decide +kernel), fu, fv, d3, fun e j hj => (d4 e).2 j (by omega) hj⟩
/-- nobody waits: the reference passes all over, and writes nothing -/
theorem m_idle (P : PL p 0 c h n s t) (hs : ∀ i, i < n → SRi i s t) (T : Int32) (hw : ∀ j, j < n → ¬ waits j T s t) : f_X12_nextAt T t = some (-1, t) := by
  have hn := P.n6
  have key : ∀ d k, k + d = n → ∀ g, d < g → f_X12_nextAt_l7 T g (-1) 0 (I k) t = some (-1, t) := by
    intro d
    induction d with
    | zero =>
      intro k hk g hg
      obtain ⟨g', rfl⟩ : ∃ g', g = g' + 1 := ⟨g - 1, by omega⟩
      have hk : k = n := by omega
      subst hk
      simp only [f_X12_nextAt_l7, f_X12_nextAt_l7b, P.nm, if_pos (Int32.le_refl _)]
    | succ d ih =>
      intro k hk g hg
      obtain ⟨g', rfl⟩ : ∃ g', g = g' + 1 := ⟨g - 1, by omega⟩
      have hk2 : ¬ I n ≤ I k := by rw [I_le (by omega) (by omega)]; omega
      have kk : (I k).toNatClampNeg = k := I_nat (by omega)
      have k6 : inb (I k) 6 = true := inb_t (by omega) (by omega)
      obtain ⟨c1, c2, c3, c4, c5, c6, -⟩ := hs k (by omega)
      have := ih (k + 1) (by omega) g' (by omega)
      by_cases z1 : ((t.1 145 0) >>> (I k &&& 31)) &&& (1 : Int32) = 0
      · simp only [f_X12_nextAt_l7, f_X12_nextAt_l7b, P.nm, if_neg hk2, if_pos z1, f_X12_nextAt_j113, ltb_t, I_succ, this]
      by_cases z2 : (0 : Int32) ≤ t.1 150 k
      · simp only [f_X12_nextAt_l7, f_X12_nextAt_l7b, P.nm, if_neg hk2, if_neg z1, gd_t, k6, kk, if_pos z2, f_X12_nextAt_j113, ltb_t, I_succ, this]
      have z2' : t.1 150 k = -1 := by
        rcases c6 with q | q
        · exact q
        · exact absurd (by rw [Int32.le_iff_toInt_le, Int32.toInt_zero]; exact q) z2
      by_cases z3 : T < s.1 74 k
      · simp only [f_X12_nextAt_l7, f_X12_nextAt_l7b, P.nm, if_neg hk2, if_neg z1, gd_t, k6, kk, if_neg z2, c1, bnd_t, if_pos z3, f_X12_nextAt_j113, ltb_t, I_succ, this]
      by_cases z4 : T < s.1 75 k
      · exact absurd ⟨z1, z2', z3, z4⟩ (hw k (by omega))
      · simp only [f_X12_nextAt_l7, f_X12_nextAt_l7b, P.nm, if_neg hk2, if_neg z1, gd_t, k6, kk, if_neg z2, c1, c3, bnd_t, if_neg z3, if_neg z4, f_X12_nextAt_j113, ltb_t, I_succ, this]
  have := key n 0 (by omega) FU (FU_lt (by omega))
  rw [← I0] at this
  exact this
end NEXT
