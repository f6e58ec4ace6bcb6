section STEPT2
variable {L : Nat} {s t : HS}
theorem r_step (C : CH L s t) (h9 : s.1 36 9 = 0) {P : Nat} (hP : P ≤ L) (h3 : s.1 36 3 = I P) (h4 : t.1 101 4 = I P) : ∃ B Q s' t', f_X8_step s = some s' ∧ f_X12_nextToken t = some t' ∧ TK L B Q s' t' ∧ P ≤ B ∧ Fr LT1 s s' ∧ Fr LT2 t t' := by
  have L1 := C.1
  obtain ⟨B, s1, t1, q1, q2, q3, q4, q5, q6, q7, q8, q9⟩ := r_skip (L := L) (L - P) P (by omega) s t C h3 h4
  have C1 : CH L s1 t1 := C.fr q5 q6 (by decide) (by decide)
  obtain ⟨a1, a2, a3, a4, a5, a6⟩ := sB_e B s1
  obtain ⟨b1, b2, b3, b4, b5⟩ := tB_e B t1
  rw [q7] at a3
  rw [q8] at b3
  have a4 : (sB B s1).1 36 9 = 0 := by rw [a4, q5.1 36 9 (by decide)]; exact h9
  have C2 := C1.lt a1 b1
  have F1 : Fr LT1 s (sB B s1) := (q5.mono (by decide)).trans a1
  have G1 : Fr LT2 t (tB B t1) := (q6.mono (by decide)).trans b1
  have cs : f_X8_step s = (if (sB B s1).1 36 3 < (sB B s1).1 36 1 then gd (inb ((sB B s1).1 36 3) 1000) ((if ((sB B s1).1 37 ((sB B s1).1 36 3).toNatClampNeg) < 97 then f_X8_step_j132 (sB B s1) else gd (inb ((sB B s1).1 36 3) 1000) ((if 122 < ((sB B s1).1 37 ((sB B s1).1 36 3).toNatClampNeg) then f_X8_step_j132 (sB B s1) else bnd (f_X8_stepWord (sB B s1)) fun s32 => some s32)))) else ltb (sI (sB B s1) 36 4 0) fun s33 => some s33) := by
    unfold f_X8_step
    rw [if_pos h9, q3 _ FU (FU_lt (by omega))]
    unfold f_X8_step_j60
    rw [ltb_t, ltb_t, ltb_t, q7]
    rfl
  have ms : f_X12_nextToken t = (if ((tB B t1).1 101 4) = ((tB B t1).1 101 3) then ltb (sI (tB B t1) 101 6 0) fun s53 => some s53 else gd (inb ((tB B t1).1 101 4) 1000) (ltb ((tB B t1).1 102 ((tB B t1).1 101 4).toNatClampNeg) fun x13 => (if x13 < 97 then f_X12_nextToken_j212 x13 (tB B t1) else (if 122 < x13 then f_X12_nextToken_j212 x13 (tB B t1) else f_X12_nextToken_l109 (fun s49 => f_X12_nextToken_j188 s49) FU (tB B t1))))) := by
    unfold f_X12_nextToken
    rw [q4 _ FU (FU_lt (by omega))]
    unfold f_X12_nextToken_j52
    rw [ltb_t, ltb_t, ltb_t, q8]
    rfl
  generalize sB B s1 = s2 at *
  generalize tB B t1 = t2 at *
  obtain ⟨c1, c2, c3, c4⟩ := id C2
  rw [a3, c2] at cs
  rw [b3, c3] at ms
  by_cases z : B = L
  · -- the end
    rw [if_neg (by rw [I_lt (by omega) (by omega)]; omega), ltb_t] at cs
    rw [z, if_pos (Eq.refl _), ltb_t] at ms
    refine ⟨B, B, _, _, cs, ms, ?_, q1, F1.trans (fr_sI (by decide)), G1.trans (fr_sI (by decide))⟩
    refine ⟨C2.lt (fr_sI (by decide)) (fr_sI (by decide)), ⟨Nat.le_refl _, by omega⟩, ?_, ⟨?_, ?_⟩, ⟨?_, ?_⟩, by rw [sI_k, sI_k], Or.inl ⟨sI_k _ _ _ _, a5, z⟩⟩
    · rw [sI_s, if_neg (by decide)]; exact a4
    · rw [sI_s, if_neg (by decide)]; exact a3
    · rw [sI_s, if_neg (by decide)]; exact b3
    · rw [sI_s, if_neg (by decide)]; exact a2
    · rw [sI_s, if_neg (by decide)]; exact b2
  have iB : inb (I B) 1000 = true := inb_t (by omega) (by omega)
  have kB : (I B).toNatClampNeg = B := I_nat (by omega)
  obtain ⟨ch, ch0, ch1⟩ := c4 B (by omega)
  rw [if_pos (by rw [I_lt (by omega) (by omega)]; omega), iB, gd_t, gd_t, kB, ch] at cs
  rw [if_neg (by rw [I_inj (by omega) (by omega)]; exact z), iB, gd_t, kB, ltb_t] at ms
  -- what both end with
  have fin : ∀ (k : Int32) (Q : Nat) (s3 t3 : HS), f_X8_step s = some (sI s3 36 4 k) → f_X12_nextToken t = some (sI t3 101 6 k) → Fr LT1 s2 s3 → Fr LT2 t2 t3 → s3.1 36 3 = I Q → t3.1 101 4 = I Q → B ≤ Q → Q ≤ L → s3.1 36 2 = I B → t3.1 101 5 = I B → KD L B (sI s3 36 4 k) (sI t3 101 6 k) → ∃ B Q s' t', f_X8_step s = some s' ∧ f_X12_nextToken t = some t' ∧ TK L B Q s' t' ∧ P ≤ B ∧ Fr LT1 s s' ∧ Fr LT2 t t' := by
    intro k Q s3 t3 e1 e2 f3 g3 e3 e4 hQ hQ2 e5 e6 K
    have fk : Fr LT1 s3 (sI s3 36 4 k) := fr_sI (by decide)
    have gk : Fr LT2 t3 (sI t3 101 6 k) := fr_sI (by decide)
    refine ⟨B, Q, _, _, e1, e2, ⟨C2.lt (f3.trans fk) (g3.trans gk), ⟨hQ, hQ2⟩, ?_, ⟨?_, ?_⟩, ⟨?_, ?_⟩, by rw [sI_k, sI_k], K⟩, q1, F1.trans (f3.trans fk), G1.trans (g3.trans gk)⟩
    · rw [(f3.trans fk).1 36 9 (by decide)]; exact a4
    · rw [sI_s, if_neg (by decide)]; exact e3
    · rw [sI_s, if_neg (by decide)]; exact e4
    · rw [sI_s, if_neg (by decide)]; exact e5
    · rw [sI_s, if_neg (by decide)]; exact e6
  sorry
end STEPT2
