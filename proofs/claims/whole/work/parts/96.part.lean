/-! order: what may stand where a part is wanted; how both go on -/
section PARTS
variable {L B P : Nat} {s t : HS}
theorem TK.w0 (T : TK L B P s t) (h : ¬ t.1 101 6 = 1) : s.2.2.2.2.2.2 = 0 := by
  obtain ⟨-, -, -, -, -, -, K⟩ := T
  rcases K with ⟨-, k2, -⟩ | ⟨k1, -⟩ | ⟨-, k2, -⟩ | ⟨-, k2, -⟩ | ⟨-, k2⟩
  · exact k2
  · exact absurd k1 h
  · exact k2
  · exact k2
  · exact k2
theorem fact_w (t : HS) : f_X12_fact t = if f_X12_isWord (w27 33) t = 1 then 1 else if f_X12_isWord (w27 34) t = 1 then 2 else if f_X12_isWord (w27 35) t = 1 then 3 else if f_X12_isWord (w27 36) t = 1 then 4 else 0 := by
  obtain ⟨-, -, -, -, -, -, -, -, -, -, -, -, -, -, -, -, -, -, -, -, -, -, -, -, -, -, -, -, -, -, -, -, -, e1, e2, e3, e4⟩ := w27_e
  rw [e1, e2, e3, e4]
  unfold f_X12_fact f_X12_isWord
  by_cases z : t.1 101 6 = 1
  · simp only [if_pos z]
    have q : ∀ (c : Prop) [Decidable c], ((if c then (1 : Int32) else 0) = 1) = c := fun c _ => by
      by_cases y : c
      · rw [if_pos y]; simp [y]
      · rw [if_neg y]; simp [y]
    simp only [q]
  · simp only [if_neg z]
    decide
theorem TK.part (T : TK L B P s t) : wob s.2.2.2.2.2.2 = true ∧
    ((t.1 101 6 = 2 ∧ s.2.2.2.2.2.2 = 0 ∧ f_X12_fact t = 0 ∧ f_X12_isWord 10631 t = 0 ∧ f_X8_isSign 40 s = 0) ∨
     (∃ i, i < 4 ∧ s.2.2.2.2.2.2 = 1033 + i ∧ f_X12_fact t = I (i + 1) ∧ f_X12_isWord 10631 t = 0 ∧ f_X8_isSign 40 s = 0 ∧ ¬ t.1 101 6 = 2) ∨
     (s.2.2.2.2.2.2 = 1030 ∧ f_X12_fact t = 0 ∧ f_X12_isWord 10631 t = 1 ∧ f_X8_isSign 40 s = 0 ∧ ¬ t.1 101 6 = 2) ∨
     (s.2.2.2.2.2.2 = 0 ∧ f_X12_fact t = 0 ∧ f_X12_isWord 10631 t = 0 ∧ f_X8_isSign 40 s = 1 ∧ ¬ t.1 101 6 = 2) ∨
     (¬ s.2.2.2.2.2.2 = 1030 ∧ (∀ i, i < 4 → ¬ s.2.2.2.2.2.2 = 1033 + i) ∧ f_X12_fact t = 0 ∧ f_X12_isWord 10631 t = 0 ∧ f_X8_isSign 40 s = 0 ∧ ¬ t.1 101 6 = 2)) := by
  obtain ⟨g1, g2, g3⟩ := T.sign 40
  obtain ⟨n1, n2, n3⟩ := T.word (j := 30) (by omega)
  obtain ⟨a1, a2, -⟩ := T.word (j := 33) (by omega)
  obtain ⟨b1, b2, -⟩ := T.word (j := 34) (by omega)
  obtain ⟨c1, c2, -⟩ := T.word (j := 35) (by omega)
  obtain ⟨d1, d2, -⟩ := T.word (j := 36) (by omega)
  rw [show w27 30 = 10631 from by decide +kernel] at n1 n2
  refine ⟨n3, ?_⟩
  have F := fact_w t
  have nw : ∀ j, s.2.2.2.2.2.2 = 1000 + j → t.1 101 6 = 1 := fun j q => by
    by_cases z : t.1 101 6 = 1
    · exact z
    · have := T.w0 z; omega
  have ns : t.1 101 6 = 1 → f_X8_isSign 40 s = 0 ∧ ¬ t.1 101 6 = 2 := fun q => ⟨g3.resolve_right (fun z => by have := (g2.mp z).1; rw [q] at this; exact absurd this (by decide)), by rw [q]; decide⟩
  have n0 : ¬ s.2.2.2.2.2.2 = 1030 → f_X12_isWord 10631 t = 0 := fun q => n2.resolve_right (fun z => q (n1.mpr z))
  by_cases z1 : s.2.2.2.2.2.2 = 1030
  · have f0 : f_X12_fact t = 0 := by rw [F, if_neg (fun q => by have := a1.mpr q; omega), if_neg (fun q => by have := b1.mpr q; omega), if_neg (fun q => by have := c1.mpr q; omega), if_neg (fun q => by have := d1.mpr q; omega)]
    obtain ⟨y1, y2⟩ := ns (nw 30 z1)
    exact Or.inr (Or.inr (Or.inl ⟨z1, f0, n1.mp z1, y1, y2⟩))
  by_cases z2 : ∃ i, i < 4 ∧ s.2.2.2.2.2.2 = 1033 + i
  · obtain ⟨i, i1, i2⟩ := z2
    obtain ⟨y1, y2⟩ := ns (nw (33 + i) (by omega))
    refine Or.inr (Or.inl ⟨i, i1, i2, ?_, n0 z1, y1, y2⟩)
    rw [F]
    rcases (show i = 0 ∨ i = 1 ∨ i = 2 ∨ i = 3 from by omega) with rfl | rfl | rfl | rfl
    · rw [if_pos (a1.mp i2)]; rfl
    · rw [if_neg (fun q => by have := a1.mpr q; omega), if_pos (b1.mp i2)]; rfl
    · rw [if_neg (fun q => by have := a1.mpr q; omega), if_neg (fun q => by have := b1.mpr q; omega), if_pos (c1.mp i2)]; rfl
    · rw [if_neg (fun q => by have := a1.mpr q; omega), if_neg (fun q => by have := b1.mpr q; omega), if_neg (fun q => by have := c1.mpr q; omega), if_pos (d1.mp i2)]; rfl
  have f0 : f_X12_fact t = 0 := by rw [F, if_neg (fun q => z2 ⟨0, by omega, a1.mpr q⟩), if_neg (fun q => z2 ⟨1, by omega, b1.mpr q⟩), if_neg (fun q => z2 ⟨2, by omega, c1.mpr q⟩), if_neg (fun q => z2 ⟨3, by omega, d1.mpr q⟩)]
  by_cases z3 : t.1 101 6 = 2
  · exact Or.inl ⟨z3, T.w0 (by rw [z3]; decide), f0, n0 z1, g3.resolve_right (fun z => by have := (g2.mp z).1; rw [z3] at this; exact absurd this (by decide))⟩
  rcases g3 with g | g
  · exact Or.inr (Or.inr (Or.inr (Or.inr ⟨z1, fun i hi q => z2 ⟨i, hi, q⟩, f0, n0 z1, g, z3⟩)))
  · exact Or.inr (Or.inr (Or.inr (Or.inl ⟨T.w0 (by rw [(g2.mp g).1]; decide), f0, n0 z1, g, z3⟩)))
/-- a sign excludes the others, and words -/
theorem TK.sone (T : TK L B P s t) {a b : Int32} (h : f_X8_isSign a s = 1) (ne : a ≠ b) : f_X8_isSign b s = 0 := by
  obtain ⟨-, g2, -⟩ := T.sign a
  obtain ⟨-, k2, k3⟩ := T.sign b
  exact k3.resolve_right (fun z => ne ((g2.mp h).2.symm.trans (k2.mp z).2))
theorem TK.snow (T : TK L B P s t) {a : Int32} (h : f_X8_isSign a s = 1) : s.2.2.2.2.2.2 = 0 ∧ ∀ v, f_X12_isWord v t = 0 := by
  obtain ⟨-, g2, -⟩ := T.sign a
  have e := (g2.mp h).1
  refine ⟨T.w0 (by rw [e]; decide), fun v => ?_⟩
  unfold f_X12_isWord
  rw [if_neg (by rw [e]; decide)]
theorem TK.wnos (T : TK L B P s t) {j : Nat} (h : s.2.2.2.2.2.2 = 1000 + j) (a : Int32) : f_X8_isSign a s = 0 := by
  obtain ⟨-, g2, g3⟩ := T.sign a
  exact g3.resolve_right (fun z => by
    have := T.w0 (by rw [(g2.mp z).1]; decide)
    omega)
/-- not at the end: the token has a length -/
theorem TK.blt (T : TK L B P s t) (h : ¬ t.1 101 6 = 0) : B < P ∧ P ≤ L ∧ L ≤ 1000 := by
  obtain ⟨t1, ⟨t2, t3, t4⟩, -⟩ := T
  have := t1.1
  exact ⟨t4.resolve_left h, t3, t1.1⟩
theorem TK.sblt (T : TK L B P s t) {a : Int32} (h : f_X8_isSign a s = 1) : B < P ∧ P ≤ L ∧ L ≤ 1000 := by
  obtain ⟨-, g2, -⟩ := T.sign a
  exact T.blt (by rw [(g2.mp h).1]; decide)
theorem TK.wblt (T : TK L B P s t) (h : ¬ s.2.2.2.2.2.2 = 0) : B < P ∧ P ≤ L ∧ L ≤ 1000 := by
  refine T.blt (fun z => h (T.w0 (by rw [z]; decide)))
end PARTS
section POPS
variable {t : HS}
theorem m_pop (K : Int32 → HS → Option (Int32 × HS)) : ∀ d, d ≤ 6 → ∀ f, d < f → f_X12_reads_l152 0 K f (I d) t = K (I (popd (t.1 123) d)) t := by
  intro d
  induction d with
  | zero =>
    intro _ f hf
    obtain ⟨f', rfl⟩ : ∃ f', f = f' + 1 := ⟨f - 1, by omega⟩
    simp only [f_X12_reads_l152, f_X12_reads_l152b, I_e0, if_pos (Int32.le_refl _), popd]
  | succ d ih =>
    intro hd f hf
    obtain ⟨f', rfl⟩ : ∃ f', f = f' + 1 := ⟨f - 1, by omega⟩
    have e1 : ¬ I (d + 1) ≤ 0 := by rw [I0, I_le (by omega) (by omega)]; omega
    have e2 : I (d + 1) + (-1) = I d := by rw [show (-1 : Int32) = -(I 1) from by decide, ← Int32.sub_eq_add_neg, I_sub (by omega)]; rfl
    by_cases z : t.1 123 (d + 1) = 1
    · simp only [f_X12_reads_l152, f_X12_reads_l152b, if_neg e1, inb_t (show d + 1 < 7 from by omega) (by omega), gd_t, I_nat (show d + 1 < 2147483648 from by omega), if_pos z, ltb_t, e2, popd]
      exact ih (by omega) f' (by omega)
    · simp only [f_X12_reads_l152, f_X12_reads_l152b, if_neg e1, inb_t (show d + 1 < 7 from by omega) (by omega), gd_t, I_nat (show d + 1 < 2147483648 from by omega), if_neg z, popd]
theorem m_pop2 (v2 : Int32) (K : Int32 → HS → Option (Int32 × HS)) : ∀ d, d ≤ 6 → ∀ f, d < f → f_X12_reads_l379 v2 K f (I d) t = K (I (popd (t.1 123) d)) t := by
  intro d
  induction d with
  | zero =>
    intro _ f hf
    obtain ⟨f', rfl⟩ : ∃ f', f = f' + 1 := ⟨f - 1, by omega⟩
    simp only [f_X12_reads_l379, f_X12_reads_l379b, I_e0, if_pos (Int32.le_refl _), popd]
  | succ d ih =>
    intro hd f hf
    obtain ⟨f', rfl⟩ : ∃ f', f = f' + 1 := ⟨f - 1, by omega⟩
    have e1 : ¬ I (d + 1) ≤ 0 := by rw [I0, I_le (by omega) (by omega)]; omega
    have e2 : I (d + 1) + (-1) = I d := by rw [show (-1 : Int32) = -(I 1) from by decide, ← Int32.sub_eq_add_neg, I_sub (by omega)]; rfl
    by_cases z : t.1 123 (d + 1) = 1
    · simp only [f_X12_reads_l379, f_X12_reads_l379b, if_neg e1, inb_t (show d + 1 < 7 from by omega) (by omega), gd_t, I_nat (show d + 1 < 2147483648 from by omega), if_pos z, ltb_t, e2, popd]
      exact ih (by omega) f' (by omega)
    · simp only [f_X12_reads_l379, f_X12_reads_l379b, if_neg e1, inb_t (show d + 1 < 7 from by omega) (by omega), gd_t, I_nat (show d + 1 < 2147483648 from by omega), if_neg z, popd]
end POPS
/-! The reference, where no part is wanted: by the token -/
section HEADS
variable {L B P : Nat} {s t : HS} {d : Nat}
theorem h_mul (T : TK L B P s t) {a : Int32} {v : Int32} (h : f_X8_isSign a s = 1) (hv : (a = 43 ∧ v = 20) ∨ (a = 45 ∧ v = 21) ∨ (a = 42 ∧ v = 22)) (K : Int32 → HS → Option (Int32 × HS)) (f : Nat) : f_X12_reads_l11 K (f + 1) (I d) 0 t = bnd (f_X12_puts v t) fun s10 => bnd (f_X12_nextToken s10) fun s12 => f_X12_reads_l11 K f (I d) 1 s12 := by
  have sg : ∀ c, f_X12_isSign c t = some (f_X8_isSign c s) := fun c => (T.sign c).1
  rcases hv with ⟨rfl, rfl⟩ | ⟨rfl, rfl⟩ | ⟨rfl, rfl⟩
  · simp only [f_X12_reads_l11, f_X12_reads_l11b, f_X12_reads_j206, f_X12_reads_j237, f_X12_reads_j424, sg, bnd_t, h]
    rfl
  · simp only [f_X12_reads_l11, f_X12_reads_l11b, f_X12_reads_j206, f_X12_reads_j237, f_X12_reads_j424, sg, bnd_t, h, T.sone h (show (45 : Int32) ≠ 43 from by decide)]
    rfl
  · simp only [f_X12_reads_l11, f_X12_reads_l11b, f_X12_reads_j206, f_X12_reads_j237, f_X12_reads_j424, sg, bnd_t, h, T.sone h (show (42 : Int32) ≠ 43 from by decide), T.sone h (show (42 : Int32) ≠ 45 from by decide)]
    rfl
theorem h_test (T : TK L B P s t) {a : Int32} {v : Int32} (h : f_X8_isSign a s = 1) (hv : (a = 60 ∧ v = 24) ∨ (a = 61 ∧ v = 25)) (hd : d ≤ 5) (h0 : t.1 124 d = 0) (K : Int32 → HS → Option (Int32 × HS)) (f : Nat) : f_X12_reads_l11 K (f + 1) (I d) 0 t = bnd (f_X12_puts v t) fun s45 => bnd (f_X12_nextToken (sI s45 124 d 1)) fun s12 => f_X12_reads_l11 K f (I d) 1 s12 := by
  have sg : ∀ c, f_X12_isSign c t = some (f_X8_isSign c s) := fun c => (T.sign c).1
  have id7 : inb (I d) 7 = true := inb_t (by omega) (by omega)
  have dk : (I d).toNatClampNeg = d := I_nat (by omega)
  rcases hv with ⟨rfl, rfl⟩ | ⟨rfl, rfl⟩
  · simp only [f_X12_reads_l11, f_X12_reads_l11b, f_X12_reads_j263, f_X12_reads_j289, f_X12_reads_j424, sg, bnd_t, h, T.sone h (show (60 : Int32) ≠ 43 from by decide), T.sone h (show (60 : Int32) ≠ 45 from by decide), T.sone h (show (60 : Int32) ≠ 42 from by decide), id7, dk, gd_t, h0, nar1]
    rfl
  · simp only [f_X12_reads_l11, f_X12_reads_l11b, f_X12_reads_j263, f_X12_reads_j289, f_X12_reads_j424, sg, bnd_t, h, T.sone h (show (61 : Int32) ≠ 43 from by decide), T.sone h (show (61 : Int32) ≠ 45 from by decide), T.sone h (show (61 : Int32) ≠ 42 from by decide), T.sone h (show (61 : Int32) ≠ 60 from by decide), id7, dk, gd_t, h0, nar1]
    rfl
/-- neither * + - nor a test: to the words and the closing sign -/
theorem h_304 (T : TK L B P s t) (h1 : f_X8_isSign 42 s = 0) (h2 : f_X8_isSign 43 s = 0) (h3 : f_X8_isSign 45 s = 0) (h4 : t.1 124 d = 0 → f_X8_isSign 60 s = 0 ∧ f_X8_isSign 61 s = 0) (hd : d ≤ 5) (K : Int32 → HS → Option (Int32 × HS)) (f : Nat) : f_X12_reads_l11 K (f + 1) (I d) 0 t = f_X12_reads_j304 (I d) 0 (f_X12_reads_l11 K f) K t := by
  have sg : ∀ c, f_X12_isSign c t = some (f_X8_isSign c s) := fun c => (T.sign c).1
  have id7 : inb (I d) 7 = true := inb_t (by omega) (by omega)
  have dk : (I d).toNatClampNeg = d := I_nat (by omega)
  simp only [f_X12_reads_l11, f_X12_reads_l11b, f_X12_reads_j263, sg, bnd_t, h1, h2, h3, id7, dk, gd_t]
  by_cases z : t.1 124 d = 0
  · simp only [h4 z]
    rfl
  · rw [if_neg z]
    by_cases y : f_X8_isSign 60 s = 0
    · by_cases y2 : f_X8_isSign 61 s = 0
      · simp only [y, y2]; rfl
      · simp only [y, if_neg y2]; rfl
    · simp only [if_neg y]; rfl
theorem h_word (T : TK L B P s t) {j : Nat} {v : Int32} (h : s.2.2.2.2.2.2 = 1000 + j) (hv : (j = 31 ∧ v = 26) ∨ (j = 32 ∧ v = 27)) (hd : d ≤ 5) (K : Int32 → HS → Option (Int32 × HS)) (f : Nat) : f_X12_reads_l11 K (f + 1) (I d) 0 t = bnd (f_X12_puts v t) fun s24 => bnd (f_X12_nextToken (sI s24 124 d 0)) fun s12 => f_X12_reads_l11 K f (I d) 1 s12 := by
  have id7 : inb (I d) 7 = true := inb_t (by omega) (by omega)
  have dk : (I d).toNatClampNeg = d := I_nat (by omega)
  rw [h_304 T (T.wnos h _) (T.wnos h _) (T.wnos h _) (fun _ => ⟨T.wnos h _, T.wnos h _⟩) hd]
  obtain ⟨a1, a2, -⟩ := T.word (j := 31) (by omega)
  obtain ⟨b1, b2, -⟩ := T.word (j := 32) (by omega)
  rw [show w27 31 = 1111 from by decide +kernel] at a1 a2
  rw [show w27 32 = 423 from by decide +kernel] at b1 b2
  rcases hv with ⟨rfl, rfl⟩ | ⟨rfl, rfl⟩
  · have e : f_X12_isWord 1111 t = 1 := a1.mp h
    simp only [f_X12_reads_j304, f_X12_reads_j324, f_X12_reads_j342, f_X12_reads_j424, e, id7, dk, gd_t, nar0]
    rfl
  · have e : f_X12_isWord 423 t = 1 := b1.mp h
    have e' : f_X12_isWord 1111 t = 0 := a2.resolve_right (fun z => by have := a1.mpr z; omega)
    simp only [f_X12_reads_j304, f_X12_reads_j324, f_X12_reads_j342, f_X12_reads_j424, e, e', id7, dk, gd_t, nar0]
    rfl
/-- neither of the words -/
theorem h_close (T : TK L B P s t) (h : ¬ s.2.2.2.2.2.2 = 1031 ∧ ¬ s.2.2.2.2.2.2 = 1032) (k11 : Int32 → Int32 → HS → Option (Int32 × HS)) (K : Int32 → HS → Option (Int32 × HS)) : f_X12_reads_j304 (I d) 0 k11 K t = if f_X8_isSign 41 s = 0 then K (I d) t else if I d ≤ 0 then K (I d) t else bnd (f_X12_puts 29 t) fun s32 => f_X12_reads_l379 0 (fun v38 s39 => bnd (f_X12_nextToken s39) fun s41 => k11 v38 0 s41) FU (I d + (-1)) s32 := by
  obtain ⟨a1, a2, -⟩ := T.word (j := 31) (by omega)
  obtain ⟨b1, b2, -⟩ := T.word (j := 32) (by omega)
  rw [show w27 31 = 1111 from by decide +kernel] at a1 a2
  rw [show w27 32 = 423 from by decide +kernel] at b1 b2
  have e : f_X12_isWord 423 t = 0 := b2.resolve_right (fun z => h.2 (b1.mpr z))
  have e' : f_X12_isWord 1111 t = 0 := a2.resolve_right (fun z => h.1 (a1.mpr z))
  unfold f_X12_reads_j304
  rw [e', if_pos (Eq.refl _), e, if_pos (Eq.refl _), (T.sign 41).1, bnd_t]
  simp only [ltb_t, f_X12_reads_j424_10]
end HEADS
