section PLAIN2
theorem m_plain (t : HS) : ∃ t', f_X12_plain 1 t = some t' ∧ (t'.1 103 10 = 0 ∧ t'.1 103 11 = 0 ∧ t'.1 103 12 = 0 ∧ t'.1 103 13 = 600 ∧ t'.1 103 14 = 540 ∧ t'.1 103 15 = 2 ∧ t'.1 103 16 = 10 ∧ t'.1 103 17 = 60 ∧ t'.1 103 18 = 30 ∧ t'.1 103 19 = 5) ∧ (∀ j, j < 4 → t'.1 119 (4 + j) = if j = 0 then 10 else 0) ∧ t'.1 120 1 = I 1000 ∧ t'.1 121 1 = I 1000 ∧ (∀ o j, (o ≠ 103 ∨ j < 10 ∨ 20 ≤ j) → (o ≠ 119 ∨ j < 4 ∨ 8 ≤ j) → (o ≠ 120 ∨ j ≠ 1) → (o ≠ 121 ∨ j ≠ 1) → t'.1 o j = t.1 o j) ∧ t'.2 = t.2 := by
  obtain ⟨t1, a1, a2, a3, a4⟩ := pl_1 10 0 (by omega) t
  obtain ⟨t2, b1, b2, b3, b4⟩ := pl_2 4 0 (by omega) (sI (sI (sI (sI (sI (sI (sI t1 103 13 600) 103 14 540) 103 15 2) 103 16 10) 103 17 60) 103 18 30) 103 19 5)
  have k1 : (1000 : Int32) * 1 = I 1000 := by decide
  have e103 : ∀ j, (sI (sI (sI (sI (sI (sI (sI t1 103 13 600) 103 14 540) 103 15 2) 103 16 10) 103 17 60) 103 18 30) 103 19 5).1 103 j = if j = 19 then 5 else if j = 18 then 30 else if j = 17 then 60 else if j = 16 then 10 else if j = 15 then 2 else if j = 14 then 540 else if j = 13 then 600 else t1.1 103 j := fun j => by rw [sI_s, sI_s, sI_s, sI_s, sI_s, sI_s, sI_s]
  have f103 : ∀ j, (sI (sI t2 120 1 (I 1000)) 121 1 (I 1000)).1 103 j = if j = 19 then 5 else if j = 18 then 30 else if j = 17 then 60 else if j = 16 then 10 else if j = 15 then 2 else if j = 14 then 540 else if j = 13 then 600 else t1.1 103 j := fun j => by rw [sI_o _ _ _ _ (by decide), sI_o _ _ _ _ (by decide), b2 103 j (Or.inl (by decide)), e103]
  refine ⟨sI (sI t2 120 1 (I 1000)) 121 1 (I 1000), ?_, ⟨?_, ?_, ?_, ?_, ?_, ?_, ?_, ?_, ?_, ?_⟩, ?_, ?_, ?_, ?_, ?_⟩
  · unfold f_X12_plain
    have a1 := fun K => a1 K FU (FU_lt (by omega))
    have b1 := fun K => b1 K FU (FU_lt (by omega))
    rw [I_e0] at a1 b1
    rw [a1]
    simp only [show inb ((10 : Int32) * 1 + 3) 20 = true from by decide, show inb ((10 : Int32) * 1 + 4) 20 = true from by decide, show inb ((10 : Int32) * 1 + 5) 20 = true from by decide, show inb ((10 : Int32) * 1 + 6) 20 = true from by decide, show inb ((10 : Int32) * 1 + 7) 20 = true from by decide, show inb ((10 : Int32) * 1 + 8) 20 = true from by decide, show inb ((10 : Int32) * 1 + 9) 20 = true from by decide, show inb (1 : Int32) 2 = true from by decide, show ((10 : Int32) * 1 + 3).toNatClampNeg = 13 from by decide, show ((10 : Int32) * 1 + 4).toNatClampNeg = 14 from by decide, show ((10 : Int32) * 1 + 5).toNatClampNeg = 15 from by decide, show ((10 : Int32) * 1 + 6).toNatClampNeg = 16 from by decide, show ((10 : Int32) * 1 + 7).toNatClampNeg = 17 from by decide, show ((10 : Int32) * 1 + 8).toNatClampNeg = 18 from by decide, show ((10 : Int32) * 1 + 9).toNatClampNeg = 19 from by decide, show (1 : Int32).toNatClampNeg = 1 from by decide, k1, gd_t, ltb_t, b1]
  · rw [f103]; exact a3 0 (by omega) (by omega)
  · rw [f103]; exact a3 1 (by omega) (by omega)
  · rw [f103]; exact a3 2 (by omega) (by omega)
  · rw [f103]; rfl
  · rw [f103]; rfl
  · rw [f103]; rfl
  · rw [f103]; rfl
  · rw [f103]; rfl
  · rw [f103]; rfl
  · rw [f103]; rfl
  · intro j hj
    rw [sI_o _ _ _ _ (by decide), sI_o _ _ _ _ (by decide)]
    exact b3 j (by omega) hj
  · rw [sI_o _ _ _ _ (by decide), sI_k]
  · rw [sI_k]
  · intro o j h1 h2 h3 h4
    rw [sI_at]
    by_cases y1 : o = 121
    · rw [if_pos y1, if_neg (by omega), y1, sI_o _ _ _ _ (by decide), b2 121 j (Or.inl (by decide)), sI_o _ _ _ _ (by decide), sI_o _ _ _ _ (by decide), sI_o _ _ _ _ (by decide), sI_o _ _ _ _ (by decide), sI_o _ _ _ _ (by decide), sI_o _ _ _ _ (by decide), sI_o _ _ _ _ (by decide)]
      exact a2 121 j (Or.inl (by decide))
    rw [if_neg y1, sI_at]
    by_cases y2 : o = 120
    · rw [if_pos y2, if_neg (by omega), y2, b2 120 j (Or.inl (by decide)), sI_o _ _ _ _ (by decide), sI_o _ _ _ _ (by decide), sI_o _ _ _ _ (by decide), sI_o _ _ _ _ (by decide), sI_o _ _ _ _ (by decide), sI_o _ _ _ _ (by decide), sI_o _ _ _ _ (by decide)]
      exact a2 120 j (Or.inl (by decide))
    rw [if_neg y2, b2 o j (by omega)]
    by_cases y3 : o = 103
    · subst y3
      rw [e103, if_neg (by omega), if_neg (by omega), if_neg (by omega), if_neg (by omega), if_neg (by omega), if_neg (by omega), if_neg (by omega)]
      exact a2 103 j (by omega)
    · rw [sI_o _ _ _ _ y3, sI_o _ _ _ _ y3, sI_o _ _ _ _ y3, sI_o _ _ _ _ y3, sI_o _ _ _ _ y3, sI_o _ _ _ _ y3, sI_o _ _ _ _ y3]
      exact a2 o j (Or.inl y3)
  · show t2.2 = t.2
    rw [b4]
    exact a4
theorem c_clear {p : Nat} (hp : okX4 p = true) (s : HS) : ∃ s', f_X4_clear p s = some s' ∧ Wc [(p, 14, 0), (p, 12, 0), (p, 9, 0), (p + 2, 1, 0), (p + 1, 3, 0), (p + 1, 2, 0), (p + 1, 1, 0), (p + 1, 0, 10), (p, 6, 5), (p, 5, 30), (p, 4, 60), (p, 3, 10), (p, 2, 2), (p, 1, 540), (p, 0, 600)] [] s s' ∧ s'.2 = s.2 ∧ s'.1 36 = s.1 36 ∧ s'.1 37 = s.1 37 := by
  have q := p36 hp
  obtain ⟨a1, a2, -, -⟩ := q 0 (by omega)
  obtain ⟨b1, b2, -, -⟩ := q 1 (by omega)
  obtain ⟨c1, c2, -, -⟩ := q 2 (by omega)
  rw [Nat.add_zero] at a1 a2
  refine ⟨_, by unfold f_X4_clear; rw [lS_e hp, (qS_e hp).1]; rfl, Wr.wI (Wr.wI (Wr.wI (Wr.wI (Wr.wI (Wr.wI (Wr.wI (Wr.wI (Wr.wI (Wr.wI (Wr.wI (Wr.wI (Wr.wI (Wr.wI (Wr.wI Wr.nil)))))))))))))), rfl, ?_, ?_⟩
  · rw [sI_n _ _ _ (Ne.symm a1), sI_n _ _ _ (Ne.symm a1), sI_n _ _ _ (Ne.symm a1), sI_n _ _ _ (Ne.symm c1), sI_n _ _ _ (Ne.symm b1), sI_n _ _ _ (Ne.symm b1), sI_n _ _ _ (Ne.symm b1), sI_n _ _ _ (Ne.symm b1), sI_n _ _ _ (Ne.symm a1), sI_n _ _ _ (Ne.symm a1), sI_n _ _ _ (Ne.symm a1), sI_n _ _ _ (Ne.symm a1), sI_n _ _ _ (Ne.symm a1), sI_n _ _ _ (Ne.symm a1), sI_n _ _ _ (Ne.symm a1)]
  · rw [sI_n _ _ _ (Ne.symm a2), sI_n _ _ _ (Ne.symm a2), sI_n _ _ _ (Ne.symm a2), sI_n _ _ _ (Ne.symm c2), sI_n _ _ _ (Ne.symm b2), sI_n _ _ _ (Ne.symm b2), sI_n _ _ _ (Ne.symm b2), sI_n _ _ _ (Ne.symm b2), sI_n _ _ _ (Ne.symm a2), sI_n _ _ _ (Ne.symm a2), sI_n _ _ _ (Ne.symm a2), sI_n _ _ _ (Ne.symm a2), sI_n _ _ _ (Ne.symm a2), sI_n _ _ _ (Ne.symm a2), sI_n _ _ _ (Ne.symm a2)]
end PLAIN2
