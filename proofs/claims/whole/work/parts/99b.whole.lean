/-! order: the whole of it, up to its closing sign -/
section WHOLE
variable {p L : Nat}
theorem r_whole (hp : okX4 p = true) {B P : Nat} {s t : HS} (T : TK L B P s t) (h : CCs p [] s) (g : RCs [] t) : ∃ s' s'', f_X3_readWhole (f_X3_readPart 8) (p + 2) 0 s = some s' ∧ f_X8_takeSign 59 s' = some s'' ∧ ((∃ B' P' t' C R E, f_X12_reads t = some (1, t') ∧ TK L B' P' s'' t' ∧ B ≤ B' ∧ CCs p C s'' ∧ RCs R t' ∧ C.length ≤ 1000 ∧ R.length ≤ 1000 ∧ PR 4 0 C R E ∧ ∀ j, j < 1000 → t'.1 122 j = t.1 122 j) ∨ (∃ t', f_X12_reads t = some (0, t') ∧ BD s'' t' ∧ ∀ j, j < 1000 → t'.1 122 j = t.1 122 j)) := by
  have hle := T.le
  obtain ⟨-, -, -, -, A, -⟩ := PSall (L := L) hp 8 0 (by omega) (by omega)
  have T1 : TK L B P s (sI t 124 0 0) := T.mI ⟨Or.inl (by decide), by decide⟩
  have g1 : RCs [] (sI t 124 0 0) := g.cg (by rw [sI_n _ _ _ (show 101 ≠ 124 from by decide)]) (by rw [sI_n _ _ _ (show 122 ≠ 124 from by decide)])
  have e122 : ∀ j, (sI t 124 0 0).1 122 j = t.1 122 j := fun j => by rw [sI_n _ _ _ (show 122 ≠ 124 from by decide)]
  have m0 : f_X12_reads t = f_X12_reads_l11 KK FU (I 0) (I 1) (sI t 124 0 0) := by
    unfold f_X12_reads
    rw [nar0, ltb_t, I_e0]
    exact Eq.refl _
  obtain ⟨s1, d1, d2⟩ := A B P s (sI t 124 0 0) [] [] 0 T1 h g1 (by simp) (by simp) (Or.inl (sI_k _ _ _ _)) (fun _ => sI_k _ _ _ _) (fun _ => rfl)
  rw [I_e0] at d1
  have d1 : f_X3_readWhole (f_X3_readPart 8) (p + 2) 0 s = some s1 := d1
  rcases d2 with ⟨B', P', t', C', R', E, o1, o2, o3, o4, ⟨o5, o6⟩, o7, ⟨o8, o9, o10, o11⟩, ⟨o12, o13, o14, o15⟩, o16⟩ | ⟨t', o1, o2, o3, o4⟩
  · rw [List.nil_append] at o3 o4 o5 o6
    have hb := o1.le
    obtain ⟨f, f1, f2⟩ := o16 FU (FU_lt (by omega))
    obtain ⟨f', rfl⟩ := fuelS f1
    have m1 : f_X12_reads t = f_X12_reads_j399 0 t' := by
      rw [m0, f2, show popd ((sI t 124 0 0).1 123) 0 = 0 from rfl, I_e0, ← I_e0, show f_X12_reads_l11 KK (f' + 1) (I 0) (I 0) t' = f_X12_reads_l11 KK (f' + 1) (I 0) 0 t' from by rw [I_e0], h_304 o1 (o12 (by omega)) (o13 (by omega)).1 (o13 (by omega)).2 (o14 (by omega)) (by omega), h_close o1 (o15 (by omega))]
      by_cases y : f_X8_isSign 41 s1 = 0
      · rw [if_pos y, KK_e]
      · rw [if_neg y, if_pos (by rw [I_e0]; exact Int32.le_refl _), KK_e]
    rw [m1]
    unfold f_X8_takeSign f_X12_reads_j399
    rw [if_pos (Eq.refl _), (o1.sign 59).1, bnd_t]
    by_cases y : f_X8_isSign 59 s1 = 0
    · obtain ⟨s4, t4, q1, q2, q3, q4, q5⟩ := fail1 hp o1 o3 (by omega) (v := 1) (by decide)
      refine ⟨s1, s4, d1, by rw [if_pos y, q1, bnd_t], Or.inr ⟨t4, ?_, q3, fun j hj => by rw [q5 j hj, o11 j hj, e122]⟩⟩
      rw [if_pos y, q2, bnd2_t, show isb 0 = true from by decide, gd_t]
    · obtain ⟨B6, P6, s6, t6, x1, x2, x3, x4, x5, x6, x7, x8, x9⟩ := nx1 hp o1
      refine ⟨s1, s6, d1, by rw [if_neg y, x1, bnd_t], Or.inl ⟨B6, P6, t6, C', R', E, ?_, x3, by omega, x5 _ o3, x6 _ o4, by omega, by omega, o7, fun j hj => by rw [x9, o11 j hj, e122]⟩⟩
      rw [if_neg y, x2, bnd_t]
  · refine ⟨s1, s1, d1, o2.1.takeSign _, Or.inr ⟨t', ?_, o1, fun j hj => by rw [o3 j hj, e122]⟩⟩
    rw [m0]
    exact o4 FU (FU_lt (by omega))
end WHOLE
