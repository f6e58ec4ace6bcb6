/-! judged -/
theorem LK_e : avR2 (L_X12_runs ++ [(101, 1), (101, 75), (101, 76), (146, 0)]) = true := by decide +kernel
theorem LK_s : wsub LJ ((L_X12_runs ++ [(101, 1), (101, 75), (101, 76), (146, 0)]) ++ [(145, 0)]) = true ∧ wsub [(145, 0)] ((L_X12_runs ++ [(101, 1), (101, 75), (101, 76), (146, 0)]) ++ [(145, 0)]) = true ∧ wsub [(101, 1), (146, 0)] ((L_X12_runs ++ [(101, 1), (101, 75), (101, 76), (146, 0)]) ++ [(145, 0)]) = true ∧ wsub [(101, 75), (101, 76)] ((L_X12_runs ++ [(101, 1), (101, 75), (101, 76), (146, 0)]) ++ [(145, 0)]) = true := by decide +kernel
theorem LJC_e : ∀ p, p = 2 ∨ p = 38 → avR1 p L_X11_judged = true := by
  intro p hp
  rcases hp with rfl | rfl <;> decide +kernel
theorem sA_k (s : HS) (o : Nat) (f : Nat → Int32) : (sA s o f).1 o = f := if_pos rfl
theorem sA_n (s : HS) (o : Nat) (f : Nat → Int32) {o' : Nat} (h : o' ≠ o) : (sA s o f).1 o' = s.1 o' := if_neg h
section JUDGED3
variable {p d c h n : Nat} {s t : HS}
/-- all lines of the days, one by one -/
theorem r_lines {m : Nat} (v : Int32) (hm : m ≤ 40) (h6 : s.1 64 6 = I m) (m135 : t.1 135 0 = I m) (L : ∀ i, i < m → LNi h n (s.1 66 (3 * i)) (s.1 66 (3 * i + 1)) (s.1 66 (3 * i + 2)) (t.1 136 i) (t.1 137 i) (t.1 138 i)) :
    ∀ e k, k + e = m → ∀ (s1 t1 : HS) (v2 : Int32), (v2 = -1 ∨ ∃ j, j < 40 ∧ v2 = I j) → TRL p c h n s1 t1 → Fr LC s s1 → Fr LJ t t1 → ∃ v2' s' t', (∀ K f, e < f → f_X11_judged_l33 v K f v2 (t1.1 101 74) (t1.1 101 75) (I k) s1 = K v2' (t'.1 101 74) (t'.1 101 75) s') ∧ (∀ K f, e < f → f_X12_judged_l48 v K f v2 (I k) t1 = K v2' t') ∧ Fr LJ t t' := by
  intro e
  induction e with
  | zero =>
    intro k hk s1 t1 v2 hv T f g
    have hk : k = m := by omega
    subst hk
    refine ⟨v2, s1, t1, fun K f' hf => ?_, fun K f' hf => ?_, g⟩
    · obtain ⟨f'', rfl⟩ : ∃ f'', f' = f'' + 1 := ⟨f' - 1, by omega⟩
      have h6' : s1.1 64 6 = I k := by rw [f.o LC_e.2.2.1]; exact h6
      simp only [f_X11_judged_l33, f_X11_judged_l33b, h6', if_pos (Int32.le_refl _)]
    · obtain ⟨f'', rfl⟩ : ∃ f'', f' = f'' + 1 := ⟨f' - 1, by omega⟩
      have h5' : t1.1 135 0 = I k := by rw [g.o LJ_e.2.2.2.1]; exact m135
      simp only [f_X12_judged_l48, f_X12_judged_l48b, h5', if_pos (Int32.le_refl _)]
  | succ e ih =>
    intro k hk s1 t1 v2 hv T f g
    have h6' : s1.1 64 6 = I m := by rw [f.o LC_e.2.2.1]; exact h6
    have h5' : t1.1 135 0 = I m := by rw [g.o LJ_e.2.2.2.1]; exact m135
    have L' : LNi h n (s1.1 66 (3 * k)) (s1.1 66 (3 * k + 1)) (s1.1 66 (3 * k + 2)) (t1.1 136 k) (t1.1 137 k) (t1.1 138 k) := by
      rw [f.o LC_e.2.2.2, g.o LJ_e.2.2.2.2.1, g.o LJ_e.2.2.2.2.2.1, g.o LJ_e.2.2.2.2.2.2.1]; exact L k (by omega)
    obtain ⟨r, dp, dd, s2, t2, r01, g1, g2, g3, g4, g5, g6, g7⟩ := r_go T h6' hm (show k < m by omega) L'
    have nm : ¬ I m ≤ I k := by rw [I_le (by omega) (by omega)]; omega
    obtain ⟨v2', s', t', k1, k2, k3⟩ := ih (k + 1) (by omega) s2 t2 (if r = 0 then (if v2 = -1 then I k else v2) else v2) (by
      by_cases z : r = 0
      · rw [if_pos z]
        by_cases z2 : v2 = -1
        · rw [if_pos z2]; exact Or.inr ⟨k, by omega, rfl⟩
        · rw [if_neg z2]; exact hv
      · rw [if_neg z]; exact hv) g5 (f.trans g6) (g.trans g7)
    refine ⟨v2', s', t', fun K f' hf => ?_, fun K f' hf => ?_, k3⟩
    · obtain ⟨f'', rfl⟩ : ∃ f'', f' = f'' + 1 := ⟨f' - 1, by omega⟩
      rw [g1, ← g3, ← g4]
      exact k1 K f'' (by omega)
    · obtain ⟨f'', rfl⟩ : ∃ f'', f' = f'' + 1 := ⟨f' - 1, by omega⟩
      have k2 := k2 K f'' (by omega)
      simp only [f_X12_judged_l48, f_X12_judged_l48b, h5', if_neg nm, g2, bnd2_t, ltb_t, I_succ]
      rcases r01 with rfl | rfl
      · rw [if_pos (Eq.refl _)] at k2 ⊢
        rcases hv with rfl | ⟨j, j1, rfl⟩
        · rw [if_pos (Eq.refl _)] at k2
          rw [if_neg (by decide)]; exact k2
        · rw [if_neg (by intro q; have := congrArg Int32.toInt q; rw [I_toInt (by omega), show (-1 : Int32).toInt = -1 from by decide] at this; omega)] at k2
          rw [if_pos (by rw [I0, I_le (by omega) (by omega)]; omega)]; exact k2
      · rw [if_neg one_ne] at k2 ⊢
        exact k2
theorem st_judged (R0 : Rel p d c h n s t) (v : Int32) : ∃ x s' t', f_X11_judged v s = some (x, s') ∧ f_X12_judged v t = some (x, t') ∧ Rel p d c h n s' t' := by
  have R := R0.t0
  have hh := R.2.1.n6
  have okp := okX4_c R.2.1.1
  have i0 : (0 : Int32).toInt = 0 := by decide
  have i2 : (2 : Int32).toInt = 2 := by decide
  by_cases z1 : v < 0
  · refine ⟨-2, s, _, by unfold f_X11_judged; rw [if_pos z1], ?_, R⟩
    rw [Int32.lt_iff_toInt_lt] at z1
    unfold f_X12_judged
    rw [ltb_t (a := sI t 101 0 0), within_0 (Or.inl z1), if_pos (Eq.refl _)]
  by_cases z2 : v ≤ 2
  case neg =>
    refine ⟨-2, s, _, by unfold f_X11_judged; rw [if_neg z1, if_neg z2], ?_, R⟩
    rw [Int32.le_iff_toInt_le] at z2
    unfold f_X12_judged
    rw [ltb_t (a := sI t 101 0 0), within_0 (Or.inr (by omega)), if_pos (Eq.refl _)]
  have wv : f_X12_within v 0 2 (sI t 101 0 0) = 1 := within_1 (by rw [Int32.lt_iff_toInt_lt] at z1; rw [Int32.le_iff_toInt_le] at z2; omega)
  obtain ⟨t1, c1, c2, c3, c4⟩ := r_copies (o := 145) (b := 0) (o' := 146) (b' := 0) (by decide) (by decide) (by decide) (by decide) (by decide) (sI t 101 0 0)
  rw [I_e0] at c1
  have c2a : Fr [(101, 1), (146, 0)] t t1 := (fr_sI (by decide) : Fr [(101, 1), (146, 0)] t (sI t 101 0 0)).trans (c2.mono (by decide))
  have P1 : PL p 0 c h n s t1 := R.2.1.fr (L := []) Fr.refl c2 (by rcases okp with rfl | rfl <;> decide) (by decide)
  obtain ⟨s2, t2, f1, f2, f3, f4, f5⟩ := r_fresh (a := 28) P1 (by decide) (by rcases okp with rfl | rfl <;> decide)
  have f4' : Fr [(28, 0), (29, 0)] s s2 := f4.mono (by decide)
  have g0 : Fr [(101, 75), (101, 76)] t2 (sI (sI t2 101 74 0) 101 75 0) := (fr_sI (by decide)).trans (fr_sI (by decide))
  have T : TRL p c h n s2 (sI (sI t2 101 74 0) 101 75 0) := by
    have gg : Fr [(145, 0), (101, 75), (101, 76)] t1 (sI (sI t2 101 74 0) 101 75 0) := (f5.mono (by decide)).trans (g0.mono (by decide))
    have O1 := R.2.2.2.1.fr R.2.1.1 (L := []) Fr.refl c2 (by rcases okp with rfl | rfl <;> decide) (by decide)
    refine ⟨by rw [f4'.2.2.1 (by decide)]; exact R.1.1, P1.fr f4' gg (by rcases okp with rfl | rfl <;> decide) (by decide), f3.fr (L := []) Fr.refl g0 (by decide) (by decide), O1.fr R.2.1.1 f4' gg (by rcases okp with rfl | rfl <;> decide) (by decide), ?_⟩
    unfold IDLE
    rw [gg.1 _ _ (by decide), gg.1 _ _ (by decide), gg.1 _ _ (by decide), c2.o (by decide)]; exact R.2.2.2.2.2.1
  obtain ⟨⟨m, m1, m2, m3, m4⟩, -, -⟩ := R.2.2.2.2.2.2.2.1
  have tt : Fr [(146, 0), (145, 0), (101, 75), (101, 76)] (sI t 101 0 0) (sI (sI t2 101 74 0) 101 75 0) := (c2.mono (by decide)).trans ((f5.mono (by decide)).trans (g0.mono (by decide)))
  obtain ⟨v2', s', t', k1, k2, k3⟩ := r_lines (s := s2) (t := sI (sI t2 101 74 0) 101 75 0) (h := h) (n := n) v m1 (by rw [f4'.o (by decide)]; exact m2) (by rw [tt.o (by decide)]; exact m3) (fun i hi => by
    rw [f4'.o (by decide), tt.o (o := 136) (by decide), tt.o (o := 137) (by decide), tt.o (o := 138) (by decide)]
    have := m4 i hi
    rw [show 40 * 0 + i = i from by omega] at this
    exact this) m 0 (by omega) s2 _ (-1) (Or.inl rfl) T Fr.refl Fr.refl
  have k1 := fun K => k1 K FU (FU_lt (by omega))
  have k2 := fun K => k2 K FU (FU_lt (by omega))
  rw [I_e0, sI_k, sI_s, if_neg (by decide), sI_k] at k1
  rw [I_e0] at k2
  obtain ⟨t5, e1, e2, e3, e4⟩ := r_copies (o := 146) (b := 0) (o' := 145) (b' := 0) (by decide) (by decide) (by decide) (by decide) (by decide) t'
  rw [I_e0] at e1
  have o101 : t5.1 101 = t'.1 101 := e2.o (by decide)
  have C1 : f_X11_judged v s = some (if v = 0 then v2' else if v = 1 then t'.1 101 74 else t'.1 101 75, s') := by
    unfold f_X11_judged
    rw [if_neg z1, if_pos z2, R.1.1, R.2.1.1, gd_t, f1, bnd_t, k1]
    by_cases y0 : v = 0
    · rw [if_pos y0, if_pos y0]
    · rw [if_neg y0, if_neg y0]
      by_cases y1 : v = 1
      · rw [if_pos y1, if_pos y1]
      · rw [if_neg y1, if_neg y1]
  have C2 : f_X12_judged v t = some (if v = 0 then v2' else if v = 1 then t'.1 101 74 else t'.1 101 75, t5) := by
    unfold f_X12_judged
    rw [ltb_t (a := sI t 101 0 0), wv, if_neg one_ne, c1, bnd_t, f2, bnd_t, ltb_t, ltb_t, k2, e1, bnd_t, o101]
    by_cases y0 : v = 0
    · rw [if_pos y0, if_pos y0]
    · rw [if_neg y0, if_neg y0]
      by_cases y1 : v = 1
      · rw [if_pos y1, if_pos y1]
      · rw [if_neg y1, if_neg y1]
  have G : Fr ((L_X12_runs ++ [(101, 1), (101, 75), (101, 76), (146, 0)]) ++ [(145, 0)]) t t5 := (c2a.mono LK_s.2.2.1).trans ((f5.mono LK_s.2.1).trans ((g0.mono LK_s.2.2.2).trans ((k3.mono LK_s.1).trans (e2.mono LK_s.2.1))))
  have e9 : ∀ q, q < 9 → t5.1 145 q = t.1 145 q := fun q hq => by
    have h1 := e3 q hq
    have h2 := c3 q hq
    rw [Nat.zero_add] at h1 h2
    rw [h1, k3.o LJ_e.2.2.2.2.2.2.2.1, g0.o (by decide), f5.o (by decide), h2, sI_n _ _ _ (by decide)]
  have Gb : Fr [(145, 0)] t5 (sA t5 145 (t.1 145)) := fr_sA (by decide)
  have Gc : Fr [(145, 0)] (sA t5 145 (t.1 145)) t5 := by
    refine ⟨fun o k q => ?_, fun _ _ _ => rfl, fun _ => rfl, fun _ => rfl, fun _ => rfl, fun _ => rfl, fun _ => rfl⟩
    exact (Gb.1 o k q).symm
  have R' : Rel p d c h n s' (sA t5 145 (t.1 145)) := R0.back (K := [(145, 0)]) (w_X11_judged v s _ C1) (G.trans (Gb.mono LK_s.2.1)) (LJC_e p okp) LK_e (fun o k hk => by
    have := wm1 hk
    subst this
    rw [sA_k]) (by decide)
  refine ⟨_, s', t5, C1, C2, R'.r9 Gc (fun q hq => ?_)⟩
  rw [e9 q hq, sA_k]
end JUDGED3
