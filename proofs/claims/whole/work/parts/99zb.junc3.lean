section JUNC3
variable {p d c h n : Nat} {s t : HS}
theorem st_junction (R : Rel p d c h n s t) : ∃ x s' t' p' d' c' h' n', f_X11_junction s = some (x, s') ∧ f_X12_junction t = some (x, t') ∧ Rel p' d' c' h' n' s' t' := by
  have R0' := R.t0
  obtain ⟨⟨r1, r2, hd, ne⟩, b1, -, -, -, -, b6, -⟩ := id R0'
  have hp := b1.1
  obtain ⟨u, ru, rr⟩ := r_read hd b6
  have fw : Fr (LPd d) s (sI u 36 1 0) := (b_read (HB_of hd) (s := s) Fr.refl) _ ru
  obtain ⟨w1, w2, w3, w4⟩ := av1_d hp hd ne
  unfold f_X11_junction f_X12_junction
  rw [r2, hd, gd_t, ru, bnd2_t, ltb_t (a := sI t 101 0 0)]
  rcases rr with ⟨L, B', P', t2, c', h', n', a1, a2, T, D, O, a3, a4⟩ | ⟨t2, a1, a2, a3, a4⟩
  · -- the rules are good
    rw [a1, if_pos (Eq.refl _), a2, bnd2_t, if_neg (by decide)]
    have q := p36 hd
    have z01 : wm (LPd d) 0 1 = false ∧ wm (LPd d) 0 2 = false := by
      have := w2
      unfold avJ at this
      simp only [Bool.and_eq_true, Bool.not_eq_true'] at this
      exact this.2.2.2
    have e1 : (sI u 36 1 0).2.2.1 = p := (fw.2.2.1 z01.1).trans r1
    have e2 : (sI u 36 1 0).2.2.2.1 = d := (fw.2.2.2.1 z01.2).trans r2
    rw [e1, e2, hp, gd_t, ltb_t, hd, gd_t, ltb_t, ltb_t]
    obtain ⟨s9, hs9⟩ : ∃ s9, s9 = sQ2 (sQ1 (sI u 36 1 0) d) p := ⟨_, rfl⟩
    have s9r : s9.2.2.1 = d ∧ s9.2.2.2.1 = p := by rw [hs9]; exact ⟨rfl, rfl⟩
    have s9o : ∀ o, o ≠ 36 → s9.1 o = u.1 o := fun o ho => by
      rw [hs9]
      show (sI u 36 1 0).1 o = _
      rw [sI_n _ _ _ ho]
    have s9L : s9.2.1 = u.2.1 := by rw [hs9]; rfl
    have s936 : s9.1 36 1 = 0 := by
      rw [hs9]
      show (sI u 36 1 0).1 36 1 = _
      rw [sI_k]
    rw [← hs9, s9r.1, hd, gd_t]
    obtain ⟨t6, tm, l1, Mv, hl⟩ := m_lays t2
    obtain ⟨Mi, ML, Mr⟩ := Mv
    have mo : ∀ o k, o ≠ 120 → o ≠ 121 → t6.1 o k = tm.1 o k := fun o k h1 h2 => by rw [hl, sI_o _ _ _ _ h2, sI_o _ _ _ _ h1]
    have mL : t6.2.1 = tm.2.1 := by rw [hl]; rfl
    have v120 : t6.1 120 0 = t2.1 120 1 - 1000 := by rw [hl, sI_o _ _ _ _ (by decide), sI_k]
    have v121 : t6.1 121 0 = t2.1 121 1 - 1000 := by rw [hl, sI_k]
    have mv : ∀ o m, szq [(122, 1000), (119, 4), (118, 6), (117, 18), (116, 6), (115, 6), (114, 6), (113, 6), (112, 5), (111, 5), (110, 5), (109, 5), (108, 5), (107, 6), (103, 10)] o = m → o ≠ 120 → o ≠ 121 → ∀ k, k < m → t6.1 o k = t2.1 o (m + k) := fun o m hm h1 h2 k hk => by rw [mo o k h1 h2, Mi o k, hm, if_pos hk]
    have mvL : ∀ o m, szq [(106, 6), (105, 5), (104, 6)] o = m → ∀ k, k < m → t6.2.1 o k = t2.2.1 o (m + k) := fun o m hm k hk => by rw [mL, ML o k, hm, if_pos hk]
    have m0 : ∀ o, szq [(122, 1000), (119, 4), (118, 6), (117, 18), (116, 6), (115, 6), (114, 6), (113, 6), (112, 5), (111, 5), (110, 5), (109, 5), (108, 5), (107, 6), (103, 10)] o = 0 → o ≠ 120 → o ≠ 121 → t6.1 o = t2.1 o := fun o hm h1 h2 => funext fun k => by rw [mo o k h1 h2, Mi o k, hm, if_neg (by omega)]
    obtain ⟨d1, d2, d3⟩ := D
    obtain ⟨dn, ⟨x1, x2⟩, ⟨x3, x4⟩, ⟨x5, x6⟩⟩ := d1
    have dp : ∀ k, k < 26 → s9.1 (d + k) = u.1 (d + k) := fun k hk => s9o _ (q k hk).1
    have d0 : s9.1 d = u.1 d := by have := dp 0 (by omega); rw [Nat.add_zero] at this; exact this
    have P6 : PL d 0 c' h' n' s9 t6 := by
      refine PL.of hd ⟨dn, ⟨?_, ?_⟩, ⟨?_, ?_⟩, ⟨?_, ?_⟩⟩ (d2.shift hd dn (r' := 0) (fun k _ => by rw [d0]) (fun k _ => by rw [dp 1 (by omega)]) (fun i _ => by rw [dp 6 (by omega)]) (fun i hi k => by rw [dp (9 + i) (by omega)]) (fun i hi k => ⟨by rw [dp (14 + 2 * i) (by omega)], by rw [dp (15 + 2 * i) (by omega)]⟩) (fun k h1 h2 => ?_) (fun i hi => ?_) (fun i hi o h1 h2 => ?_) (fun i hi o ho => ?_) (fun i hi k hk => ?_) (fun k hk => ?_))
      · have := dp 0 (by omega); rw [Nat.add_zero] at this; rw [this]; exact x1
      · rw [mv 103 10 (by decide) (by decide) (by decide) _ (by omega)]; exact x2
      · have := dp 0 (by omega); rw [Nat.add_zero] at this; rw [this]; exact x3
      · rw [mv 103 10 (by decide) (by decide) (by decide) _ (by omega)]; exact x4
      · have := dp 0 (by omega); rw [Nat.add_zero] at this; rw [this]; exact x5
      · rw [mv 103 10 (by decide) (by decide) (by decide) _ (by omega)]; exact x6
      · rw [mv 103 10 (by decide) (by decide) (by decide) _ (by omega)]; exact congrArg (t2.1 103) (by omega)
      · rw [mv 107 6 (by decide) (by decide) (by decide) _ (by omega)]; exact congrArg (t2.1 107) (by omega)
      · have : szq [(122, 1000), (119, 4), (118, 6), (117, 18), (116, 6), (115, 6), (114, 6), (113, 6), (112, 5), (111, 5), (110, 5), (109, 5), (108, 5), (107, 6), (103, 10)] o = 5 := by
          rcases (show o = 108 ∨ o = 109 ∨ o = 110 ∨ o = 111 ∨ o = 112 from by omega) with rfl | rfl | rfl | rfl | rfl <;> decide
        rw [mv o 5 this (by omega) (by omega) _ (by omega)]; exact congrArg (t2.1 o) (by omega)
      · have : szq [(122, 1000), (119, 4), (118, 6), (117, 18), (116, 6), (115, 6), (114, 6), (113, 6), (112, 5), (111, 5), (110, 5), (109, 5), (108, 5), (107, 6), (103, 10)] o = 6 := by
          rcases (show o = 113 ∨ o = 114 ∨ o = 115 ∨ o = 116 ∨ o = 118 from by omega) with rfl | rfl | rfl | rfl | rfl <;> decide
        rw [mv o 6 this (by omega) (by omega) _ (by omega)]; exact congrArg (t2.1 o) (by omega)
      · rw [mv 117 18 (by decide) (by decide) (by decide) _ (by omega)]; exact congrArg (t2.1 117) (by omega)
      · rw [mv 119 4 (by decide) (by decide) (by decide) _ (by omega)]; exact congrArg (t2.1 119) (by omega)
    have N6 : NMS d 0 c' h' n' s9 t6 := d3.shift hd dn (r' := 0) (fun i _ => by rw [s9L]) (fun i _ => by rw [s9L]) (fun i _ => by rw [s9L]) (fun i hi => by rw [mvL 104 6 (by decide) _ (by omega)]; exact congrArg (t2.2.1 104) (by omega)) (fun i hi => by rw [mvL 105 5 (by decide) _ (by omega)]; exact congrArg (t2.2.1 105) (by omega)) (fun i hi => by rw [mvL 106 6 (by decide) _ (by omega)]; exact congrArg (t2.2.1 106) (by omega))
    obtain ⟨m, m1, -, -, Om⟩ := O
    obtain ⟨s12, t8, f1, f2, HH, f4, f5⟩ := r_fresh P6 (a := 64) (by decide) w3
    rw [f1, bnd_t, l1, bnd_t, f2, bnd_t]
    unfold f_X7_forget
    rw [ltb_t, ltb_t, ltb_t, bnd_t, ltb_t, ltb_t, ltb_t, ltb_t, ltb_t]
    obtain ⟨sz, hz⟩ : ∃ sz, sz = sI (sI (sI (sI s12 64 6 0) 64 8 0) 64 10 0) 1 10 0 := ⟨_, rfl⟩
    obtain ⟨tz, hy⟩ : ∃ tz, tz = sI (sI (sI (sI t8 135 0 0) 139 0 0) 142 0 0) 101 60 0 := ⟨_, rfl⟩
    rw [← hz, ← hy]
    obtain ⟨s', k1, k2, k3, k4⟩ := c_marks 0 4 0 (by omega) sz
    obtain ⟨t', j1, j2, j3, j4⟩ := m_marks 4 0 (by omega) tz
    have k1 := k1 FU (FU_lt (by omega))
    have j1 := j1 FU (FU_lt (by omega))
    rw [I_e0] at k1 j1
    -- the frames of what follows
    have F : Fr [(64, 0), (65, 0), (1, 11), (81, 12), (86, 12), (91, 12), (96, 12)] s9 s' := by
      refine (f4.mono (by decide)).trans ?_
      have Fz1 : Fr [(64, 0), (65, 0), (1, 11), (81, 12), (86, 12), (91, 12), (96, 12)] s12 sz := by
        rw [hz]
        exact (fr_sI (by decide)).trans ((fr_sI (by decide)).trans ((fr_sI (by decide)).trans (fr_sI (by decide))))
      refine Fz1.trans ⟨fun o j w => k2 o j (fun i hi => ?_), fun o j _ => by rw [k4], fun _ => by rw [k4], fun _ => by rw [k4], fun _ => by rw [k4], fun _ => by rw [k4], fun _ => by rw [k4]⟩
      by_cases y : o = mS i ∧ j = 11
      · exfalso
        rw [y.1, y.2] at w
        rcases (show i = 0 ∨ i = 1 ∨ i = 2 ∨ i = 3 from by omega) with rfl | rfl | rfl | rfl <;> exact absurd w (by decide)
      · omega
    have Gm : Fr [(145, 0), (135, 1), (139, 1), (142, 1), (101, 61), (149, 0)] t6 t' := by
      refine (f5.mono (by decide)).trans ?_
      have Gz1 : Fr [(145, 0), (135, 1), (139, 1), (142, 1), (101, 61), (149, 0)] t8 tz := by
        rw [hy]
        exact (fr_sI (by decide)).trans ((fr_sI (by decide)).trans ((fr_sI (by decide)).trans (fr_sI (by decide))))
      refine Gz1.trans ⟨fun o j w => j2 o j (Or.inl (fun y => by rw [y] at w; simp [wm] at w)), fun o j _ => by rw [j4], fun _ => by rw [j4], fun _ => by rw [j4], fun _ => by rw [j4], fun _ => by rw [j4], fun _ => by rw [j4]⟩
    refine ⟨0, s', t', d, p, c', h', n', k1, j1, ⟨⟨?_, ?_, hp, Ne.symm ne⟩, P6.fr F Gm w4 (by decide), ?_, ?_, N6.fr hd dn F Gm w4 (by decide), ?_, ?_, ?_, ?_, ?_⟩⟩
    · rw [F.2.2.1 (by decide)]; exact s9r.1
    · rw [F.2.2.2.1 (by decide)]; exact s9r.2
    · obtain ⟨g1, g2, g3, g4, g5, g6⟩ := HH
      have e65 : Rf 64 4 = 65 := by decide
      rw [e65] at g6
      have se : ∀ j, j ≤ 3 → s'.1 64 j = s12.1 64 j := fun j hj => by
        rw [k2 64 j (fun i hi => Or.inl (by unfold mS; omega)), hz, sI_o _ _ _ _ (by decide), sI_s, if_neg (by omega), sI_s, if_neg (by omega), sI_s, if_neg (by omega)]
      have te : ∀ o, o ≠ 135 → o ≠ 139 → o ≠ 142 → o ≠ 101 → o ≠ 149 → t'.1 o = t8.1 o := fun o h1 h2 h3 h4 h5 => funext fun j => by
        rw [j2 o j (Or.inl h5), hy, sI_o _ _ _ _ h4, sI_o _ _ _ _ h3, sI_o _ _ _ _ h2, sI_o _ _ _ _ h1]
      have t145 := te 145 (by decide) (by decide) (by decide) (by decide) (by decide)
      have t103 := te 103 (by decide) (by decide) (by decide) (by decide) (by decide)
      refine ⟨g1, by rw [se 0 (by omega), t145]; exact g2, by rw [se 1 (by omega), t145, t103]; exact g3, by rw [se 2 (by omega), t145]; exact g4, by rw [se 3 (by omega), t145]; exact g5, ?_⟩
      rw [e65, t145]
      intro i hi
      rw [k2 65 i (fun i hi => Or.inl (by unfold mS; omega)), hz, sI_o _ _ _ _ (by decide), sI_o _ _ _ _ (by decide), sI_o _ _ _ _ (by decide), sI_o _ _ _ _ (by decide)]
      exact g6 i hi
    · have q2 := q 2 (by omega)
      have q3 := q 3 (by omega)
      refine OR_of hd Om (fun k => ⟨?_, ?_⟩) ?_ ?_ (fun k hk => ?_)
      · rw [av1_o w4 F (k := 2) (by omega) (by omega), s9o _ q2.1]
      · rw [av1_o w4 F (k := 3) (by omega) (by omega), s9o _ q3.1]
      · rw [Gm.o (by decide)]; exact v120
      · rw [Gm.o (by decide)]; exact v121
      · rw [Gm.o (by decide), mv 122 1000 (by decide) (by decide) (by decide) k hk]
    · have b5 := R0'.2.2.2.2.2.1
      have tt : ∀ k, k = 61 ∨ k = 62 ∨ k = 64 → t'.1 101 k = (sI t 101 0 0).1 101 k := fun k hk => by
        rw [Gm.1 101 k (by rcases hk with rfl | rfl | rfl <;> decide), m0 101 (by decide) (by decide) (by decide)]
        exact (a4 101 k (by unfold R0 Zm; omega) (by omega)).1
      rw [tt 61 (by omega), tt 62 (by omega), tt 64 (by omega)]; exact b5
    · refine ⟨0, by omega, ?_, ?_, fun i hi => absurd hi (by omega)⟩
      · rw [F.1 36 1 (by decide), s936, I0]
      · rw [Gm.1 101 1 (by decide), m0 101 (by decide) (by decide) (by decide), a3, I0]
    · have e64 : ∀ j, j = 6 ∨ j = 8 ∨ j = 10 → s'.1 64 j = 0 := fun j hj => by
        rw [k2 64 j (fun i hi => Or.inl (by unfold mS; omega)), hz, sI_o _ _ _ _ (by decide), sI_s, sI_s, sI_s]
        rcases hj with rfl | rfl | rfl <;> rfl
      have tt : ∀ o, o = 135 ∨ o = 139 ∨ o = 142 → t'.1 o 0 = 0 := fun o ho => by
        rw [j2 o 0 (Or.inl (by omega)), hy, sI_o _ _ _ _ (by omega)]
        rcases ho with rfl | rfl | rfl
        · rw [sI_o _ _ _ _ (by decide), sI_o _ _ _ _ (by decide), sI_k]
        · rw [sI_o _ _ _ _ (by decide), sI_k]
        · rw [sI_k]
      exact ⟨⟨0, by omega, by rw [e64 6 (by omega), I0], by rw [tt 135 (by omega), I0], fun i hi => absurd hi (by omega)⟩, ⟨0, by omega, by rw [e64 8 (by omega), I0], by rw [tt 139 (by omega), I0], fun i hi => absurd hi (by omega)⟩, ⟨0, by omega, by rw [e64 10 (by omega), I0], by rw [tt 142 (by omega), I0], fun i hi => absurd hi (by omega)⟩⟩
    · intro i hi
      have a := (k3 i hi).1 (by omega)
      have b := (j3 i hi).1 (by omega)
      exact ⟨by rw [a, b], Or.inl b, fun w => absurd (b.symm.trans w) (by decide)⟩
    · refine ⟨0, by omega, ?_, ?_, fun k hk => absurd hk (by omega)⟩
      · rw [k2 1 10 (fun i hi => Or.inl (by unfold mS; omega)), hz, sI_k, I0]
      · rw [j2 101 60 (Or.inl (by decide)), hy, sI_k, I0]
  · -- a fault
    obtain ⟨D, D2⟩ := a1
    have c0 : ¬ u.1 36 9 = 0 := D.1
    rw [if_neg c0, a2, bnd2_t, if_pos (Eq.refl _), D2]
    refine ⟨u.1 36 9, sI u 36 1 0, t2, p, d, c, h, n, rfl, rfl, R0'.cgJ fw w1 w2 (fun o k w z => ⟨(a4 o k w z).1, fun y => (a4 o k w z).2 (by omega)⟩) ⟨0, by omega, by rw [sI_k, I0], by rw [a3, I0], fun i hi => absurd hi (by omega)⟩⟩
end JUNC3
