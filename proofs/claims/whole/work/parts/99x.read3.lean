section READ3
variable {p : Nat} {s t : HS}
theorem r_read (hp : okX4 p = true) (H : TP s t) : ∃ u, f_X5_read p s = some (u.1 36 9, sI u 36 1 0) ∧ ((∃ L B' P' t' c' h' n', u.1 36 9 = 0 ∧ f_X12_readsAll t = some (1, t') ∧ TK L B' P' u t' ∧ DR p c' h' n' u t' ∧ ONCE p u t' ∧ t'.1 101 1 = 0 ∧ ∀ o k, R0 o k → (o = 101 → k ≠ 1 ∧ k ≠ 3) → t'.1 o k = t.1 o k ∧ (o ≠ 122 → t'.2.1 o k = t.2.1 o k)) ∨ (∃ t', BD u t' ∧ f_X12_readsAll t = some (0, t') ∧ t'.1 101 1 = 0 ∧ ∀ o k, R0 o k → (o = 101 → k ≠ 1 ∧ k ≠ 3) → t'.1 o k = t.1 o k ∧ (o ≠ 122 → t'.2.1 o k = t.2.1 o k))) := by
  obtain ⟨L, h1, h2, h3, h4⟩ := H
  have q := p36 hp
  obtain ⟨sc, c1, c2, c3, c4, c5⟩ := c_clear hp s
  obtain ⟨tp, m1, ⟨v0, v1, v2, v3, v4, v5, v6, v7, v8, v9⟩, m3, m4, m5, m6, m7⟩ := m_plain t
  obtain ⟨sA, hsA⟩ : ∃ sA, sA = sI (sI (sI sc 69 2 0) 36 9 0) 36 3 0 := ⟨_, rfl⟩
  obtain ⟨tA, htA⟩ : ∃ tA, tA = sI (sI (sI (sI (sI tp 101 31 0) 101 30 1000) 101 3 (t.1 101 1)) 101 1 0) 101 4 0 := ⟨_, rfl⟩
  have tp101 : ∀ j, tp.1 101 j = t.1 101 j := fun j => m6 101 j (Or.inl (by decide)) (Or.inl (by decide)) (Or.inl (by decide)) (Or.inl (by decide))
  have tA101 : ∀ j, tA.1 101 j = if j = 4 then 0 else if j = 1 then 0 else if j = 3 then t.1 101 1 else if j = 30 then 1000 else if j = 31 then 0 else t.1 101 j := fun j => by
    rw [htA, sI_s, sI_s, sI_s, sI_s, sI_s, tp101]
  have tAo : ∀ o, o ≠ 101 → tA.1 o = tp.1 o := fun o ho => by
    rw [htA, sI_n _ _ _ ho, sI_n _ _ _ ho, sI_n _ _ _ ho, sI_n _ _ _ ho, sI_n _ _ _ ho]
  have sA36 : ∀ j, sA.1 36 j = if j = 3 then 0 else if j = 9 then 0 else s.1 36 j := fun j => by
    rw [hsA, sI_s, sI_s, sI_n _ _ _ (show 36 ≠ 69 from by decide), c4]
  have C : CH L sA tA := by
    refine ⟨h1, ?_, ?_, fun i hi => ?_⟩
    · rw [sA36, if_neg (by decide), if_neg (by decide)]; exact h2
    · rw [tA101, if_neg (by decide), if_neg (by decide), if_pos (Eq.refl _)]; exact h3
    · have a : sA.1 37 = s.1 37 := by rw [hsA, sI_n _ _ _ (by decide), sI_n _ _ _ (by decide), sI_n _ _ _ (by decide), c5]
      have b : tA.1 102 i = t.1 102 i := by
        rw [tAo 102 (by decide)]
        exact m6 102 i (Or.inl (by decide)) (Or.inl (by decide)) (Or.inl (by decide)) (Or.inl (by decide))
      rw [a, b]
      exact h4 i hi
  obtain ⟨B, Q, s5, t5, r1, r2, r3, r4, r5, r6⟩ := r_step C (by rw [sA36, if_neg (by decide), if_pos (Eq.refl _)]) (Nat.zero_le L) (by rw [sA36, if_pos (Eq.refl _), I0]) (by rw [tA101, if_pos (Eq.refl _), I0])
  have r5 := r5.mono (show wsub LT1 LF1 = true by decide)
  have r6 := r6.mono (show wsub LT2 LF2 = true by decide)
  have sv : ∀ o j, o ≠ 36 → o ≠ 0 → (o ≠ 69 ∨ j ≠ 2) → s5.1 o j = lk [(p, 14, 0), (p, 12, 0), (p, 9, 0), (p + 2, 1, 0), (p + 1, 3, 0), (p + 1, 2, 0), (p + 1, 1, 0), (p + 1, 0, 10), (p, 6, 5), (p, 5, 30), (p, 4, 60), (p, 3, 10), (p, 2, 2), (p, 1, 540), (p, 0, 600)] o j (s.1 o j) := fun o j z1 z2 z3 => by
    rw [LF1_o r5 z1 z2, hsA, sI_o _ _ _ _ z1, sI_o _ _ _ _ z1, sI_at]
    by_cases y : o = 69
    · rw [if_pos y, if_neg (z3.resolve_left (fun w => w y))]
      exact c2.1 o j (by omega)
    · rw [if_neg y]
      exact c2.1 o j (by omega)
  have s69 : s5.1 69 2 = 0 := by
    rw [LF1_o r5 (by decide) (by decide), hsA, sI_o _ _ _ _ (by decide), sI_o _ _ _ _ (by decide), sI_k]
  have tv : ∀ o j, o ≠ 101 → t5.1 o j = tp.1 o j := fun o j z => by
    rw [r6.1 o j (wm_LF2 o j (fun w => z w.1)), tAo o z]
  have t101 : ∀ j, ¬ Zm 101 j → t5.1 101 j = if j = 4 then 0 else if j = 1 then 0 else if j = 3 then t.1 101 1 else if j = 30 then 1000 else if j = 31 then 0 else t.1 101 j := fun j z => by
    rw [r6.1 101 j (wm_LF2 101 j z), tA101]
  have tL : ∀ o j, ¬ Zm o j → t5.2.1 o j = t.2.1 o j := fun o j z => by
    rw [r6.2.1 o j (wm_LF2 o j z), htA]
    show tp.2.1 o j = _
    rw [m7]
  have p69 := (q 0 (by omega)).2.2.2
  have hp36 : p ≠ 36 := (q 0 (by omega)).1
  have hp0 : p ≠ 0 := (q 0 (by omega)).2.2.1
  have hp69 : p ≠ 69 := (q 0 (by omega)).2.2.2
  have sp : ∀ j v, lk [(p, 14, 0), (p, 12, 0), (p, 9, 0), (p + 2, 1, 0), (p + 1, 3, 0), (p + 1, 2, 0), (p + 1, 1, 0), (p + 1, 0, 10), (p, 6, 5), (p, 5, 30), (p, 4, 60), (p, 3, 10), (p, 2, 2), (p, 1, 540), (p, 0, 600)] p j (s.1 p j) = v → s5.1 p j = v := fun j v e => by rw [sv p j hp36 hp0 (Or.inl hp69)]; exact e
  have sp1 : ∀ j v, lk [(p, 14, 0), (p, 12, 0), (p, 9, 0), (p + 2, 1, 0), (p + 1, 3, 0), (p + 1, 2, 0), (p + 1, 1, 0), (p + 1, 0, 10), (p, 6, 5), (p, 5, 30), (p, 4, 60), (p, 3, 10), (p, 2, 2), (p, 1, 540), (p, 0, 600)] (p + 1) j (s.1 (p + 1) j) = v → s5.1 (p + 1) j = v := fun j v e => by
    have := q 1 (by omega)
    rw [sv (p + 1) j (by omega) (by omega) (Or.inl (by omega))]; exact e
  have D : DR p 0 0 0 s5 t5 := by
    refine ⟨⟨⟨by omega, by omega, by omega⟩, ⟨?_, ?_⟩, ⟨?_, ?_⟩, ⟨?_, ?_⟩⟩, ⟨⟨⟨?_, ?_⟩, ⟨?_, ?_⟩, ⟨?_, ?_⟩, ⟨?_, ?_⟩, ⟨?_, ?_⟩, ⟨?_, ?_⟩, ⟨?_, ?_⟩, ?_⟩, fun i hi => absurd hi (by omega), fun i hi => absurd hi (by omega), fun i hi => absurd hi (by omega), fun m hm => ?_⟩, fun i hi => absurd hi (by omega), fun i hi => absurd hi (by omega), fun i hi => absurd hi (by omega)⟩
    · rw [← I0]; exact sp 9 0 (by simp [lk])
    · rw [tv 103 _ (by decide), ← I0]; exact v0
    · rw [← I0]; exact sp 12 0 (by simp [lk])
    · rw [tv 103 _ (by decide), ← I0]; exact v1
    · rw [← I0]; exact sp 14 0 (by simp [lk])
    · rw [tv 103 _ (by decide), ← I0]; exact v2
    · rw [sp 0 600 (by simp [lk]), tv 103 _ (by decide)]; exact v3.symm
    · rw [tv 103 _ (by decide), show tp.1 103 (10 * 1 + 3) = 600 from v3]; decide
    · rw [sp 1 540 (by simp [lk]), tv 103 _ (by decide)]; exact v4.symm
    · rw [tv 103 _ (by decide), show tp.1 103 (10 * 1 + 4) = 540 from v4]; decide
    · rw [sp 2 2 (by simp [lk]), tv 103 _ (by decide)]; exact v5.symm
    · rw [tv 103 _ (by decide), show tp.1 103 (10 * 1 + 5) = 2 from v5]; decide
    · rw [sp 3 10 (by simp [lk]), tv 103 _ (by decide)]; exact v6.symm
    · rw [tv 103 _ (by decide), show tp.1 103 (10 * 1 + 6) = 10 from v6]; decide
    · rw [sp 4 60 (by simp [lk]), tv 103 _ (by decide)]; exact v7.symm
    · rw [tv 103 _ (by decide), show tp.1 103 (10 * 1 + 7) = 60 from v7]; decide
    · rw [sp 5 30 (by simp [lk]), tv 103 _ (by decide)]; exact v8.symm
    · rw [tv 103 _ (by decide), show tp.1 103 (10 * 1 + 8) = 30 from v8]; decide
    · rw [sp 6 5 (by simp [lk]), tv 103 _ (by decide)]; exact v9.symm
    · rw [tv 103 _ (by decide), show tp.1 103 (10 * 1 + 9) = 5 from v9]; decide
    · rw [tv 103 _ (by decide), tv 103 _ (by decide), show tp.1 103 (10 * 1 + 4) = 540 from v4, show tp.1 103 (10 * 1 + 3) = 600 from v3]; decide
    · rw [lS_e hp, tv 119 _ (by decide), show 4 * 1 + m = 4 + m from by omega, m3 m hm]
      rcases (show m = 0 ∨ m = 1 ∨ m = 2 ∨ m = 3 from by omega) with rfl | rfl | rfl | rfl
      · exact ⟨sp1 0 10 (by simp [lk]), by decide⟩
      · exact ⟨sp1 1 0 (by simp [lk]), by decide⟩
      · exact ⟨sp1 2 0 (by simp [lk]), by decide⟩
      · exact ⟨sp1 3 0 (by simp [lk]), by decide⟩
  have O : ONCE p s5 t5 := by
    refine ⟨0, by omega, by rw [s69]; exact I0, ?_, ?_, Or.inl ⟨by omega, ?_, ?_, ?_⟩⟩
    · rw [t101 31 (by unfold Zm; omega), if_neg (by decide), if_neg (by decide), if_neg (by decide), if_neg (by decide), if_pos (by decide)]; decide
    · rw [tv 120 _ (by decide)]; exact m4
    · rw [tv 121 _ (by decide)]; exact m5
    · rw [t101 30 (by unfold Zm; omega), if_neg (by decide), if_neg (by decide), if_neg (by decide), if_pos (by decide)]; decide
    · have := q 2 (by omega)
      rw [sv (p + 2) 1 (by omega) (by omega) (Or.inl (by omega))]
      simp [lk]
  have fr : ∀ t', FR0 t5 t' → t'.1 101 1 = 0 ∧ ∀ o k, R0 o k → (o = 101 → k ≠ 1 ∧ k ≠ 3) → t'.1 o k = t.1 o k ∧ (o ≠ 122 → t'.2.1 o k = t.2.1 o k) := fun t' F => by
    refine ⟨?_, fun o k r h => ?_⟩
    · rw [(F 101 1 (by unfold R0 Zm; omega)).1, t101 1 (by unfold Zm; omega)]; rfl
    · obtain ⟨F1, F2⟩ := F o k r
      refine ⟨?_, fun z => by rw [F2 z, tL o k r.1]⟩
      rw [F1]
      by_cases y : o = 101
      · subst y
        have r2 := r.2.1 rfl
        have r1 := r.1
        have hh := h rfl
        unfold Zm at r1
        rw [t101 k r.1, if_neg (by omega), if_neg hh.1, if_neg hh.2, if_neg r2.1, if_neg r2.2]
      · rw [tv o k y]
        obtain ⟨-, -, w3, -, -, -, w7, w8, -⟩ := r
        exact m6 o k (by omega) (by omega) (by omega) (by omega)
  obtain ⟨u, u1, u2⟩ := r_lines_l hp (L - B) B Q s5 t5 0 0 0 0 (Nat.le_refl _) r3 D O (by omega)
  have hle := r3.le
  have u1 := u1 FU (FU_lt (by omega))
  rw [I_e0] at u1
  have mm : ∀ r, (∀ f, L - B < f → f_X12_readsAll_l21 f t5 = r) → f_X12_readsAll t = r := fun r hr => by
    unfold f_X12_readsAll f_X12_starts
    rw [m1, bnd_t, ltb_t, ltb_t, ltb_t, ltb_t, ltb_t]
    have e1 : (sI (sI tp 101 31 0) 101 30 1000).1 101 1 = t.1 101 1 := by rw [sI_s, if_neg (by decide), sI_s, if_neg (by decide), tp101]
    rw [e1, ← htA, r2, bnd_t, bnd_t]
    exact hr FU (FU_lt (by omega))
  refine ⟨u, ?_, ?_⟩
  · unfold f_X5_read f_X8_rewind
    rw [c1, bnd_t, ltb_t, ltb_t, ltb_t, ← hsA, r1, bnd_t, bnd_t]
    exact u1
  · rcases u2 with ⟨B2, P2, t2, c2, h2, n2, a1, a2, a3, a4, a5, a6⟩ | ⟨t2, a1, a2, a3⟩
    · exact Or.inl ⟨L, B2, P2, t2, c2, h2, n2, a1, mm _ a2, a3, a4, a5, fr t2 a6⟩
    · exact Or.inr ⟨t2, a1, mm _ a2, fr t2 a3⟩
end READ3
