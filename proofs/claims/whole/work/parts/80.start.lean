/-! the start -/
theorem q00 : s_0.2.2.1 = 38 ∧ s_0.2.2.2.1 = 2 := ⟨rfl, rfl⟩
theorem q01 : s_0.1 38 9 = I 0 ∧ s_0.1 38 12 = I 0 ∧ s_0.1 38 14 = I 0 ∧ s_0.1 103 0 = I 0 ∧ s_0.1 103 1 = I 0 ∧ s_0.1 103 2 = I 0 := by decide +kernel
theorem q02 : s_0.1 38 0 = 600 ∧ s_0.1 38 1 = 540 ∧ s_0.1 38 2 = 2 ∧ s_0.1 38 3 = 10 ∧ s_0.1 38 4 = 60 ∧ s_0.1 38 5 = 30 ∧ s_0.1 38 6 = 5 ∧ s_0.1 103 3 = 600 ∧ s_0.1 103 4 = 540 ∧ s_0.1 103 5 = 2 ∧ s_0.1 103 6 = 10 ∧ s_0.1 103 7 = 60 ∧ s_0.1 103 8 = 30 ∧ s_0.1 103 9 = 5 := by decide +kernel
theorem q03 : ∀ m, m < 4 → s_0.1 (Rf 38 7) m = s_0.1 119 (4 * 0 + m) ∧ 0 ≤ (s_0.1 119 (4 * 0 + m)).toInt ∧ (s_0.1 119 (4 * 0 + m)).toInt ≤ 10 := by decide +kernel
theorem q04 : s_0.1 64 0 = 0 ∧ s_0.1 64 1 = 540 ∧ s_0.1 64 2 = 0 ∧ s_0.1 64 3 = 2 ∧ s_0.1 145 0 = 0 ∧ s_0.1 145 1 = 540 ∧ s_0.1 145 2 = 0 ∧ s_0.1 145 3 = 2 := by decide +kernel
theorem q05 : s_0.1 101 61 = 0 ∧ s_0.1 101 62 = -1 ∧ s_0.1 101 64 = -1 := by decide +kernel
theorem q06 : s_0.1 36 1 = I 0 ∧ s_0.1 101 1 = I 0 ∧ s_0.1 64 6 = I 0 ∧ s_0.1 64 8 = I 0 ∧ s_0.1 64 10 = I 0 ∧ s_0.1 135 0 = I 0 ∧ s_0.1 139 0 = I 0 ∧ s_0.1 142 0 = I 0 ∧ s_0.1 1 10 = I 0 ∧ s_0.1 101 60 = I 0 := by decide +kernel
theorem q07 : ∀ m, m < 4 → s_0.1 (mS m) 11 = s_0.1 149 m ∧ s_0.1 149 m = 0 := by decide +kernel
theorem rel_0 (O : OR 38 s_0 s_0) : Rel 38 2 0 0 0 s_0 s_0 := by
  obtain ⟨a1, a2, a3, a4, a5, a6⟩ := q01
  obtain ⟨b1, b2, b3, b4, b5, b6, b7, c1, c2, c3, c4, c5, c6, c7⟩ := q02
  obtain ⟨d1, d2, d3, d4, e1, e2, e3, e4⟩ := q04
  obtain ⟨f1, f2, f3, f4, f5, f6, f7, f8, f9, f0⟩ := q06
  refine ⟨⟨q00.1, q00.2, by decide, by decide⟩, ⟨by decide, by omega, ⟨a1, a4⟩, ⟨a2, a5⟩, ⟨a3, a6⟩, ?_, fun i hi => by omega, fun i hi => by omega, fun i hi => by omega, fun m hm => q03 m hm⟩, ⟨by decide, ?_, ?_, ?_, ?_, fun i hi => by omega⟩, O, ⟨fun i hi => by omega, fun i hi => by omega, fun i hi => by omega⟩, q05, ⟨0, by omega, f1, f2, fun i hi => by omega⟩, ⟨⟨0, by omega, f3, f6, fun i hi => by omega⟩, ⟨0, by omega, f4, f7, fun i hi => by omega⟩, ⟨0, by omega, f5, f8, fun i hi => by omega⟩⟩, fun m hm => ⟨(q07 m hm).1, Or.inl (q07 m hm).2, fun y => ?_⟩, ⟨0, by omega, f9, f0, fun k hk => by omega⟩⟩
  · have z : ∀ k, 10 * 0 + k = k := fun k => by omega
    unfold PLsc EqB
    rw [z, z, z, z, z, z, z, b1, b2, b3, b4, b5, b6, b7, c1, c2, c3, c4, c5, c6, c7]
    decide
  · unfold EqB; rw [d1, e1]; decide
  · unfold EqB; rw [d2, e2, c1]; decide
  · unfold EqB; rw [d3, e3]; decide
  · unfold EqB; rw [d4, e4]; decide
  · rw [(q07 m hm).2] at y; exact absurd y (by decide)
theorem q08 : s_0.1 40 1 = I 0 ∧ s_0.1 120 0 = I 0 ∧ s_0.1 121 0 = I 0 ∧ Rf 38 8 = 40 := by decide +kernel
theorem or_0 : OR 38 s_0 s_0 := by
  obtain ⟨a1, a2, a3, a4⟩ := q08
  refine ⟨fun _ _ _ _ => 0, fun s' a b c d e1 e2 => ?_, fun ne => absurd (by rw [a2, a3]) ne, fun _ _ _ _ _ => rfl⟩
  rw [a4] at e1 ⊢
  obtain ⟨f, hf⟩ := FU_s
  refine ⟨s', ?_⟩
  unfold f_X2_value
  rw [hf]
  simp only [f_X2_value_l6, f_X2_value_l6b, e1, a1]
  rw [if_pos (by decide), if_pos (by decide)]
theorem rel_00 : Rel 38 2 0 0 0 s_0 s_0 := rel_0 or_0
