section STEPT2
variable {L : Nat} {s t : HS}
theorem r_step (C : CH L s t) (h9 : s.1 36 9 = 0) {P : Nat} (hP : P ≤ L) (h3 : s.1 36 3 = I P) (h4 : t.1 101 4 = I P) : ∃ B Q s' t', f_X8_step s = some s' ∧ f_X12_nextToken t = some t' ∧ TK L B Q s' t' ∧ P ≤ B ∧ Fr LT1 s s' ∧ Fr LT2 t t' := by
  have L1 := C.1
  obtain ⟨B, s1, t1, q1, q2, q3, q4, q5, q6, q7, q8, q9⟩ := r_skip (L := L) (L - P) P (by omega) s t C h3 h4
  have C1 : CH L s1 t1 := C.fr q5 q6 (by decide) (by decide)
  obtain ⟨a1, a2, a3, a4, a5, a6⟩ := sB_e B s1
  obtain ⟨b1, b2, b3, b4, b5⟩ := tB_e B t1
  rw [q7] at a3
  rw [q8] at b3
  have a4 : (sB B s1).1 36 9 = 0 := by rw [a4, q5.1 36 9 (by decide)]; exact h9
  have C2 := C1.lt a1 b1
  have F1 : Fr LT1 s (sB B s1) := (q5.mono (by decide)).trans a1
  have G1 : Fr LT2 t (tB B t1) := (q6.mono (by decide)).trans b1
  have cs : f_X8_step s = (if (sB B s1).1 36 3 < (sB B s1).1 36 1 then gd (inb ((sB B s1).1 36 3) 1000) ((if ((sB B s1).1 37 ((sB B s1).1 36 3).toNatClampNeg) < 97 then f_X8_step_j132 (sB B s1) else gd (inb ((sB B s1).1 36 3) 1000) ((if 122 < ((sB B s1).1 37 ((sB B s1).1 36 3).toNatClampNeg) then f_X8_step_j132 (sB B s1) else bnd (f_X8_stepWord (sB B s1)) fun s32 => some s32)))) else ltb (sI (sB B s1) 36 4 0) fun s33 => some s33) := by
    unfold f_X8_step
    rw [if_pos h9, q3 _ FU (FU_lt (by omega))]
    unfold f_X8_step_j60
    rw [ltb_t, ltb_t, ltb_t, q7]
    rfl
  have ms : f_X12_nextToken t = (if ((tB B t1).1 101 4) = ((tB B t1).1 101 3) then ltb (sI (tB B t1) 101 6 0) fun s53 => some s53 else gd (inb ((tB B t1).1 101 4) 1000) (ltb ((tB B t1).1 102 ((tB B t1).1 101 4).toNatClampNeg) fun x13 => (if x13 < 97 then f_X12_nextToken_j212 x13 (tB B t1) else (if 122 < x13 then f_X12_nextToken_j212 x13 (tB B t1) else f_X12_nextToken_l109 (fun s49 => f_X12_nextToken_j188 s49) FU (tB B t1))))) := by
    unfold f_X12_nextToken
    rw [q4 _ FU (FU_lt (by omega))]
    unfold f_X12_nextToken_j52
    rw [ltb_t, ltb_t, ltb_t, q8]
    rfl
  generalize sB B s1 = s2 at *
  generalize tB B t1 = t2 at *
  obtain ⟨c1, c2, c3, c4⟩ := id C2
  rw [a3, c2] at cs
  rw [b3, c3] at ms
  by_cases z : B = L
  · -- the end
    rw [if_neg (by rw [I_lt (by omega) (by omega)]; omega), ltb_t] at cs
    rw [z, if_pos (Eq.refl _), ltb_t] at ms
    refine ⟨B, B, _, _, cs, ms, ?_, q1, F1.trans (fr_sI (by decide)), G1.trans (fr_sI (by decide))⟩
    refine ⟨C2.lt (fr_sI (by decide)) (fr_sI (by decide)), ⟨Nat.le_refl _, by omega, Or.inl (sI_k _ _ _ _)⟩, ?_, ⟨?_, ?_⟩, ⟨?_, ?_⟩, by rw [sI_k, sI_k], Or.inl ⟨sI_k _ _ _ _, a5, z⟩⟩
    · rw [sI_s, if_neg (by decide)]; exact a4
    · rw [sI_s, if_neg (by decide)]; exact a3
    · rw [sI_s, if_neg (by decide)]; exact b3
    · rw [sI_s, if_neg (by decide)]; exact a2
    · rw [sI_s, if_neg (by decide)]; exact b2
  have bl : B < L := by omega
  have iB : inb (I B) 1000 = true := inb_t (by omega) (by omega)
  have kB : (I B).toNatClampNeg = B := I_nat (by omega)
  obtain ⟨ch, ch0, ch1⟩ := c4 B (by omega)
  rw [if_pos (by rw [I_lt (by omega) (by omega)]; omega), iB, gd_t, gd_t, kB, ch] at cs
  rw [if_neg (by rw [I_inj (by omega) (by omega)]; exact z), iB, gd_t, kB, ltb_t] at ms
  -- what both end with
  have fin : ∀ (k : Int32) (Q : Nat) (s3 t3 : HS), f_X8_step s = some (sI s3 36 4 k) → f_X12_nextToken t = some (sI t3 101 6 k) → Fr LT1 s2 s3 → Fr LT2 t2 t3 → s3.1 36 3 = I Q → t3.1 101 4 = I Q → B < Q → Q ≤ L → s3.1 36 2 = I B → t3.1 101 5 = I B → KD L B (sI s3 36 4 k) (sI t3 101 6 k) → ∃ B Q s' t', f_X8_step s = some s' ∧ f_X12_nextToken t = some t' ∧ TK L B Q s' t' ∧ P ≤ B ∧ Fr LT1 s s' ∧ Fr LT2 t t' := by
    intro k Q s3 t3 e1 e2 f3 g3 e3 e4 hQ hQ2 e5 e6 K
    have fk : Fr LT1 s3 (sI s3 36 4 k) := fr_sI (by decide)
    have gk : Fr LT2 t3 (sI t3 101 6 k) := fr_sI (by decide)
    refine ⟨B, Q, _, _, e1, e2, ⟨C2.lt (f3.trans fk) (g3.trans gk), ⟨Nat.le_of_lt hQ, hQ2, Or.inr hQ⟩, ?_, ⟨?_, ?_⟩, ⟨?_, ?_⟩, by rw [sI_k, sI_k], K⟩, q1, F1.trans (f3.trans fk), G1.trans (g3.trans gk)⟩
    · rw [(f3.trans fk).1 36 9 (by decide)]; exact a4
    · rw [sI_s, if_neg (by decide)]; exact e3
    · rw [sI_s, if_neg (by decide)]; exact e4
    · rw [sI_s, if_neg (by decide)]; exact e5
    · rw [sI_s, if_neg (by decide)]; exact e6
  have i97 : (97 : Int32).toInt = 97 := by decide
  have i122 : (122 : Int32).toInt = 122 := by decide
  have iB1 : I B + (1 : Int32) = I (B + 1) := I_p1
  obtain ⟨x, x1, x2⟩ : ∃ x, x < 127 ∧ t2.1 102 B = I x := ⟨(t2.1 102 B).toInt.toNat, by omega, I_of ch0⟩
  have other : t2.1 102 B < 97 ∨ 122 < t2.1 102 B → f_X8_step s = f_X8_step_j132 s2 ∧ f_X12_nextToken t = f_X12_nextToken_j212 (t2.1 102 B) t2 := fun y => by
    by_cases y1 : t2.1 102 B < 97
    · rw [if_pos y1] at cs ms; exact ⟨cs, ms⟩
    · have y2 := y.resolve_left y1
      rw [if_neg y1, if_pos y2] at cs ms; exact ⟨cs, ms⟩
  by_cases lt : t2.1 102 B < 97 ∨ 122 < t2.1 102 B
  · obtain ⟨cs, ms⟩ := other lt
    by_cases dg : t2.1 102 B < 48 ∨ 57 < t2.1 102 B
    · -- a sign, or none
      have cs : f_X8_step s = f_X8_step_j167 s2 := by
        rw [cs]; unfold f_X8_step_j132
        rw [a3, iB, gd_t, gd_t, kB, ch]
        by_cases y1 : t2.1 102 B < 48
        · rw [if_pos y1]
        · rw [if_neg y1, if_pos (dg.resolve_left y1)]
      have ms : f_X12_nextToken t = f_X12_nextToken_j322 (t2.1 102 B) t2 := by
        rw [ms]; unfold f_X12_nextToken_j212
        by_cases y1 : t2.1 102 B < 48
        · rw [if_pos y1]
        · rw [if_neg y1, if_pos (dg.resolve_left y1)]
      obtain ⟨r, r1, r2⟩ := ix_e x1 (sI (sI s2 36 7 (I x)) 36 3 (I (B + 1)))
      have ic : isc (I x) = true := (show ∀ x, x < 127 → isc (I x) = true by decide +kernel) x x1
      have cs : f_X8_step s = some (sI (sI (sI s2 36 7 (I x)) 36 3 (I (B + 1))) 36 4 (if r < 0 then 4 else 3)) := by
        rw [cs]; unfold f_X8_step_j167
        have e3 : (sI s2 36 7 (I x)).1 36 3 = I B := by rw [sI_s, if_neg (by decide)]; exact a3
        have e7 : (sI (sI s2 36 7 (I x)) 36 3 (I (B + 1))).1 36 7 = I x := by rw [sI_s, if_neg (by decide), sI_k]
        rw [a3, iB, gd_t, kB, ch, x2, ic, gd_t, ltb_t, e3, iB1, ltb_t, e7, r1, bnd_t]
        by_cases y : r < 0
        · rw [if_pos y, if_pos y, ltb_t]
        · rw [if_neg y, if_neg y, ltb_t]
      have ms : f_X12_nextToken t = some (sI (sI t2 101 4 (I (B + 1))) 101 6 (if r < 0 then 4 else 3)) := by
        rw [ms, x2]; unfold f_X12_nextToken_j322 f_X12_nextToken_j345
        have n40 : (I x < 40 ↔ x < 40) ∧ (I x ≤ 43 ↔ x ≤ 43) ∧ (I x = 45 ↔ x = 45) ∧ (I x < 59 ↔ x < 59) ∧ (61 < I x ↔ 61 < x) := (show ∀ x, x < 127 → ((I x < 40 ↔ x < 40) ∧ (I x ≤ 43 ↔ x ≤ 43) ∧ (I x = 45 ↔ x = 45) ∧ (I x < 59 ↔ x < 59) ∧ (61 < I x ↔ 61 < x)) by decide +kernel) x x1
        obtain ⟨m1, m2, m3, m4, m5⟩ := n40
        rw [b3, iB1]
        simp only [ltb_t, m1, m2, m3, m4, m5, r2]
        by_cases w1 : x < 40
        · rw [if_pos w1, if_neg (by omega), if_pos (by omega), if_pos (by omega)]
        · rw [if_neg w1]
          by_cases w2 : x ≤ 43
          · rw [if_pos w2, if_neg (by omega)]
          · rw [if_neg w2]
            by_cases w3 : x = 45
            · rw [if_pos w3, if_neg (by omega)]
            · rw [if_neg w3]
              by_cases w4 : x < 59
              · rw [if_pos w4, if_pos (by omega)]
              · rw [if_neg w4]
                by_cases w5 : 61 < x
                · rw [if_pos w5, if_pos (by omega)]
                · rw [if_neg w5, if_neg (by omega)]
      refine fin _ (B + 1) _ _ cs ms ((fr_sI (by decide)).trans (fr_sI (by decide))) (fr_sI (by decide)) (sI_k _ _ _ _) (sI_k _ _ _ _) (by omega) (by omega) ?_ ?_ ?_
      · rw [sI_s, if_neg (by decide), sI_s, if_neg (by decide)]; exact a2
      · rw [sI_s, if_neg (by decide)]; exact b2
      · by_cases y : r < 0
        · rw [if_pos y]
          exact Or.inr (Or.inr (Or.inr (Or.inr ⟨sI_k _ _ _ _, a5⟩)))
        · rw [if_neg y]
          refine Or.inr (Or.inr (Or.inr (Or.inl ⟨sI_k _ _ _ _, a5, by omega, ?_⟩)))
          rw [sI_s, if_neg (by decide), sI_s, if_neg (by decide), sI_k, sI_n _ _ _ (by decide), sI_n _ _ _ (by decide), x2]
    · -- a number
      have d1 : ¬ t2.1 102 B < 48 := fun q => dg (Or.inl q)
      have d2 : ¬ 57 < t2.1 102 B := fun q => dg (Or.inr q)
      have f0 : Fr LT1 s2 (sI s2 36 6 0) := fr_sI (by decide)
      obtain ⟨Q, s3, t3, p1, p2, p3, p4, p5, p6, p7, p8, p9, p10⟩ := r_digits (L := L) (B := B) (L - B) B (by omega) (Nat.le_refl _) (sI s2 36 6 0) t2 (C2.lt f0 Fr.refl) (by rw [sI_s, if_neg (by decide)]; exact a3) b3 b2 (fun _ => ⟨0, by rw [Nat.sub_self]; decide, by rw [sI_k]; exact I0, by rw [b4]; exact I0⟩)
      have e2 : s3.1 36 2 = I B := by rw [p5.1 36 2 (by decide), sI_s, if_neg (by decide)]; exact a2
      have e5 : t3.1 101 5 = I B := by rw [p6.1 101 5 (by decide)]; exact b2
      have e6 : s3.2.2.2.2.2.2 = 0 := by rw [p5.2.2.2.2.2.2 (by decide)]; exact a5
      have sub : I Q - I B = I (Q - B) := I_sub p1
      have c4' : I (Q - B) ≤ 4 ↔ Q - B ≤ 4 := by rw [show (4 : Int32) = I 4 from litI 4, I_le (by omega) (by omega)]
      have cs : f_X8_step s = some (sI s3 36 4 (if Q - B ≤ 4 then 2 else 4)) := by
        rw [cs]; unfold f_X8_step_j132 f_X8_stepNumber
        rw [a3, iB, gd_t, gd_t, kB, ch, if_neg d1, if_neg d2, ltb_t, p3 _ FU (FU_lt (by omega))]
        unfold f_X8_stepNumber_j81
        rw [p7, e2, sub]
        by_cases y : Q - B ≤ 4
        · rw [if_pos y, if_pos (c4'.mpr y), ltb_t, bnd_t]
        · rw [if_neg y, if_neg (fun q => y (c4'.mp q)), ltb_t, bnd_t]
      have ms : f_X12_nextToken t = some (sI t3 101 6 (if Q - B ≤ 4 then 2 else 4)) := by
        rw [ms]; unfold f_X12_nextToken_j212
        rw [if_neg d1, if_neg d2, p4 _ FU (FU_lt (by omega))]
        unfold f_X12_nextToken_j299
        rw [p8, e5, sub]
        by_cases y : Q - B ≤ 4
        · rw [if_pos y, if_pos (c4'.mpr y), ltb_t]
        · rw [if_neg y, if_neg (fun q => y (c4'.mp q)), ltb_t]
      refine fin _ Q _ _ cs ms (f0.trans (p5.mono (by decide))) (p6.mono (by decide)) p7 p8 (p10 bl d1 d2) p2 e2 e5 ?_
      by_cases y : Q - B ≤ 4
      · rw [if_pos y]
        obtain ⟨N, N1, N2, N3⟩ := p9 y
        have : 10 ^ (Q - B) ≤ 10 ^ 4 := Nat.pow_le_pow_right (by omega) y
        exact Or.inr (Or.inr (Or.inl ⟨sI_k _ _ _ _, e6, N, by omega, by rw [sI_s, if_neg (by decide)]; exact N2, by rw [sI_s, if_neg (by decide)]; exact N3⟩))
      · rw [if_neg y]
        exact Or.inr (Or.inr (Or.inr (Or.inr ⟨sI_k _ _ _ _, e6⟩)))
  · -- a word
    have d1 : ¬ t2.1 102 B < 97 := fun q => lt (Or.inl q)
    have d2 : ¬ 122 < t2.1 102 B := fun q => lt (Or.inr q)
    rw [if_neg d1, if_neg d2] at cs ms
    obtain ⟨Q, s3, t3, p1, p2, p3, p4, p5, p6, p7, p8, p9, p10⟩ := r_letters (L := L) (B := B) (L - B) B (by omega) (Nat.le_refl _) s2 t2 C2 a3 b3 b2 (fun _ => ⟨[], fun y hy => absurd hy (List.not_mem_nil), by rw [Nat.sub_self]; rfl, by rw [a6]; rfl, by rw [b5]; rfl⟩)
    have e2 : s3.1 36 2 = I B := by rw [p5.1 36 2 (by decide)]; exact a2
    have e5 : t3.1 101 5 = I B := by rw [p6.1 101 5 (by decide)]; exact b2
    have e6 : s3.2.2.2.2.2.2 = 0 := by rw [p5.2.2.2.2.2.2 (by decide)]; exact a5
    have sub : I Q - I B = I (Q - B) := I_sub p1
    have c8 : I (Q - B) ≤ 8 ↔ Q - B ≤ 8 := by rw [show (8 : Int32) = I 8 from litI 8, I_le (by omega) (by omega)]
    have fQ : ∀ w, Fr LT1 s3 (sQ5 s3 w) := fun w => ⟨fun _ _ _ => rfl, fun _ _ _ => rfl, fun _ => rfl, fun _ => rfl, fun _ => rfl, fun _ => rfl, fun q => absurd q (by decide)⟩
    unfold f_X8_stepWord at cs
    rw [p3 _ FU (FU_lt (by omega))] at cs
    rw [p4 _ FU (FU_lt (by omega))] at ms
    unfold f_X8_stepWord_j80 at cs
    unfold f_X12_nextToken_j188 at ms
    rw [p7, e2, sub] at cs
    rw [p8, e5, sub] at ms
    by_cases y : Q - B ≤ 8
    · have hk := r_key (s3.2.1 36 5) 37 0 (by omega) (sI s3 36 4 1) rfl FU (FU_lt (by omega))
      rw [I_e0] at hk
      rw [if_pos (c8.mpr y), ltb_t, hk, bnd_t] at cs
      rw [if_pos (c8.mpr y), ltb_t] at ms
      obtain ⟨l, l1, l2, l3, l4⟩ := p9 y
      refine fin 1 Q (sQ5 s3 (kwl (s3.2.1 36 5) 0 37 (sI s3 36 4 1).2.2.2.2.2.2)) t3 cs ms ((p5.mono (by decide)).trans (fQ _)) (p6.mono (by decide)) p7 p8 (p10 bl d1 d2) p2 e2 e5 (Or.inr (Or.inl ⟨sI_k _ _ _ _, l, l1, by omega, l3, l4, ?_⟩))
      show kwl (s3.2.1 36 5) 0 37 s3.2.2.2.2.2.2 = kwl (s3.2.1 36 5) 0 37 0
      rw [e6]
    · rw [if_neg (fun q => y (c8.mp q)), ltb_t, bnd_t] at cs
      rw [if_neg (fun q => y (c8.mp q)), ltb_t] at ms
      exact fin 4 Q s3 t3 cs ms (p5.mono (by decide)) (p6.mono (by decide)) p7 p8 (p10 bl d1 d2) p2 e2 e5 (Or.inr (Or.inr (Or.inr (Or.inr ⟨sI_k _ _ _ _, e6⟩))))
end STEPT2
