/-! junction, of both -/
section JUNC
variable {p d c h n : Nat} {s t s' t' : HS} {A : List (Nat × Nat)}
def avJ (A : List (Nat × Nat)) : Bool := [34, 64, 65, 66, 67, 68].all (fun o => !wo A o) && ((List.range 20).all (fun k => !wo A (81 + k)) && (!wm A 1 10 && (!wm A 0 1 && !wm A 0 2)))
def FRJ (t t' : HS) : Prop := ∀ o k, R0 o k → (o = 101 → k ≠ 1 ∧ k ≠ 3) → t'.1 o k = t.1 o k ∧ (o = 104 ∨ o = 105 ∨ o = 106 → t'.2.1 o k = t.2.1 o k)
theorem FRJ.o (g : FRJ t t') {o : Nat} (h : 125 ≤ o) : t'.1 o = t.1 o := funext fun k => (g o k (by unfold R0 Zm; omega) (by omega)).1
theorem Rel.cgJ (R : Rel p d c h n s t) (f : Fr A s s') (h1 : av1 p A = true) (h2 : avJ A = true) (g : FRJ t t') (T : TP s' t') : Rel p d c h n s' t' := by
  obtain ⟨⟨r1, r2, r3, r4⟩, b1, b2, b3, b4, b5, -, b7, b8, b9⟩ := R
  unfold avJ at h2
  simp only [Bool.and_eq_true, Bool.not_eq_true', List.all_cons, List.all_nil, and_true] at h2
  obtain ⟨⟨a34, a64, a65, a66, a67, a68⟩, a81, a1, a01, a02⟩ := h2
  obtain ⟨hp, C, X⟩ := b1.x
  have hn := C.1
  have e0 := av1_o h1 f (k := 0) (by omega) (by omega)
  rw [Nat.add_zero] at e0
  have g103 : ∀ k, k < 10 → t'.1 103 k = t.1 103 k := fun k hk => (g 103 k (by unfold R0 Zm; omega) (by omega)).1
  have ee : ∀ k, k < 26 → k ≠ 4 → s'.1 (p + k) = s.1 (p + k) := fun k h4 h5 => av1_o h1 f h4 h5
  have eL : ∀ k, k < 26 → k ≠ 4 → s'.2.1 (p + k) = s.2.1 (p + k) := fun k h4 h5 => av1_l h1 f h4 h5
  have z81 : ∀ k, k < 20 → wo A (81 + k) = false := fun k hk => by
    have := List.all_eq_true.mp a81 k (List.mem_range.mpr hk)
    simpa using this
  refine ⟨⟨by rw [f.2.2.1 a01]; exact r1, by rw [f.2.2.2.1 a02]; exact r2, r3, r4⟩, PL.of hp ?_ ?_, ?_, ?_, ?_, ?_, T, ?_, ?_, ?_⟩
  · unfold CNT
    rw [e0, g103 _ (by omega), g103 _ (by omega), g103 _ (by omega)]
    exact C
  · exact X.cg hp hn (fun k _ => by rw [e0]) (fun k _ => by rw [ee 1 (by omega) (by omega)]) (fun i _ => by rw [ee 6 (by omega) (by omega)]) (fun i hi k => by rw [ee (9 + i) (by omega) (by omega)]) (fun i hi k => ⟨by rw [ee (14 + 2 * i) (by omega) (by omega)], by rw [ee (15 + 2 * i) (by omega) (by omega)]⟩) (fun k _ hk => g103 _ (by omega)) (fun i hi => (g 107 _ (by unfold R0 Zm; omega) (by omega)).1) (fun i hi o h1 h2 => (g o _ (by unfold R0 Zm; omega) (by omega)).1) (fun i hi o ho => (g o _ (by unfold R0 Zm; omega) (by omega)).1) (fun i hi k hk => (g 117 _ (by unfold R0 Zm; omega) (by omega)).1) (fun k hk => (g 119 _ (by unfold R0 Zm; omega) (by omega)).1)
  · obtain ⟨q1, q2, q3, q4, q5, q6⟩ := b2
    refine ⟨q1, by rw [f.o a64, g.o (by decide)]; exact q2, by rw [f.o a64, g.o (by decide), g103 _ (by omega)]; exact q3, by rw [f.o a64, g.o (by decide)]; exact q4, by rw [f.o a64, g.o (by decide)]; exact q5, ?_⟩
    have e65 : Rf 64 4 = 65 := by decide
    rw [e65] at q6 ⊢
    rw [f.o a65, g.o (by decide)]; exact q6
  · obtain ⟨E, o1, o2, o3⟩ := b3
    have g120 : t'.1 120 0 = t.1 120 0 := (g 120 0 (by unfold R0 Zm; omega) (by omega)).1
    have g121 : t'.1 121 0 = t.1 121 0 := (g 121 0 (by unfold R0 Zm; omega) (by omega)).1
    have g122 : ∀ k, k < 1000 → t'.1 122 k = t.1 122 k := fun k hk => (g 122 k (by unfold R0 Zm; omega) (by omega)).1
    refine ⟨E, ?_, ?_, ?_⟩
    · intro u a b c d e1 e2
      obtain ⟨q1, q2⟩ := oS_e hp
      refine o1 u a b c d ?_ ?_
      · rw [e1, q1, ee 2 (by omega) (by omega)]
      · rw [e2, q2, ee 3 (by omega) (by omega)]
    · intro ne u e1 e2 e3
      exact o2 (fun z => ne (by rw [g120, g121]; exact z)) u (by rw [e1, g120]) (by rw [e2, g121]) (fun k hk => by rw [e3 k hk, g122 k hk])
    · rw [g120, g121]; exact o3
  · exact b4.cg hp hn (fun i _ => by rw [eL 5 (by omega) (by omega)]) (fun i hi => by rw [eL (9 + i) (by omega) (by omega)]) (fun i hi => by rw [eL (14 + 2 * i) (by omega) (by omega)]) (fun i hi => (g 104 _ (by unfold R0 Zm; omega) (by omega)).2 (by decide)) (fun i hi => (g 105 _ (by unfold R0 Zm; omega) (by omega)).2 (by decide)) (fun i hi => (g 106 _ (by unfold R0 Zm; omega) (by omega)).2 (by decide))
  · rw [(g 101 61 (by unfold R0 Zm; omega) (by omega)).1, (g 101 62 (by unfold R0 Zm; omega) (by omega)).1, (g 101 64 (by unfold R0 Zm; omega) (by omega)).1]; exact b5
  · unfold DT LN SO SE at b7 ⊢
    rw [f.o a64, f.o (show wo A (64 + 2) = false from a66), f.o (show wo A (64 + 3) = false from a67), f.o (show wo A (64 + 4) = false from a68), g.o (o := 135) (by decide), g.o (o := 136) (by decide), g.o (o := 137) (by decide), g.o (o := 138) (by decide), g.o (o := 139) (by decide), g.o (o := 140) (by decide), g.o (o := 141) (by decide), g.o (o := 142) (by decide), g.o (o := 143) (by decide), g.o (o := 144) (by decide)]
    exact b7
  · intro m hm
    obtain ⟨q1, q2, q3⟩ := b8 m hm
    have z : ∀ j, j < 5 → wo A (mS m + j) = false := fun j hj => by
      have := z81 (5 * m + j) (by omega)
      rw [show mS m + j = 81 + (5 * m + j) from by unfold mS; omega]; exact this
    have z0 := z 0 (by omega)
    rw [Nat.add_zero] at z0
    have g149 := g.o (o := 149) (by decide)
    refine ⟨by rw [f.o z0, g149]; exact q1, by rw [g149]; exact q2, fun w => ?_⟩
    rw [g149] at w
    obtain ⟨v1, v2⟩ := q3 w
    refine ⟨?_, ?_⟩
    · unfold HRm
      rw [f.o z0, f.o (z 1 (by omega)), g.o (o := 147) (by decide), g103 _ (by omega)]; exact v1
    · unfold DT LN SO SE at v2 ⊢
      rw [f.o z0, f.o (z 2 (by omega)), f.o (z 3 (by omega)), f.o (z 4 (by omega)), g.o (o := 135) (by decide), g.o (o := 136) (by decide), g.o (o := 137) (by decide), g.o (o := 138) (by decide), g.o (o := 139) (by decide), g.o (o := 140) (by decide), g.o (o := 141) (by decide), g.o (o := 142) (by decide), g.o (o := 143) (by decide), g.o (o := 144) (by decide)]
      exact v2
  · unfold UN
    rw [f.1 _ _ a1, (g 101 60 (by unfold R0 Zm; omega) (by omega)).1, f.o a34, g.o (o := 148) (by decide), g.o (o := 145) (by decide), g103 _ (by omega)]
    exact b9
end JUNC
