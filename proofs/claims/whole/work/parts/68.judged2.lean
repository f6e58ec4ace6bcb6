/-! judged: the morning of both, and the lines one by one -/
section JUDGED2
variable {p d c h n a : Nat} {s t : HS}
theorem Rel.r9 {t' : HS} (R : Rel p d c h n s t) (g : Fr [(145, 0)] t t') (e9 : ∀ q, q < 9 → t'.1 145 q = t.1 145 q) : Rel p d c h n s t' := by
  have hh := R.2.1.n6
  have o3 : t'.1 103 = t.1 103 := g.o (by decide)
  refine R.asm Fr.refl (g.mono (by decide)) (R.2.2.1.c9 hh.2.1 e9 o3) (R.2.2.2.2.2.2.2.1.fr (L := []) Fr.refl g (by decide) (by decide)) (R.2.2.2.2.2.2.2.2.1.row (L := []) Fr.refl (by decide) (g.o (by decide)) (g.o (by decide)) o3 (fun m hm => ?_)) (R.2.2.2.2.2.2.2.2.2.cg hh.2.1 rfl rfl (g.1 _ _ (by decide)) (g.o (by decide)) e9 o3)
  exact ⟨⟨by rw [g.o (by decide)], by rw [g.o (by decide)], by rw [g.o (by decide)]⟩, fun i _ => ⟨by rw [g.o (by decide)], by rw [g.o (by decide)], by rw [g.o (by decide)]⟩, fun i _ => ⟨by rw [g.o (by decide)], by rw [g.o (by decide)]⟩, fun i _ => ⟨by rw [g.o (by decide)], by rw [g.o (by decide)]⟩⟩
/-- the hand of the morning -/
theorem r_fresh (P : PL p 0 c h n s t) (ha : okX7 a = true) (hap : av1 p [(a, 0), (a + 1, 0)] = true) : ∃ s' t', f_X7_startWith a p s = some s' ∧ f_X12_fresh t = some t' ∧ HR a h n s' t' ∧ Fr [(a, 1), (a, 2), (a, 3), (a, 4), (a + 1, 0)] s s' ∧ Fr [(145, 0)] t t' := by
  have hh := P.n6
  have o4 := okX7_4 ha
  have hs0 : ∀ (k : Nat) (x : Int32) (u : HS), k < 4 → Fr [(a, 1), (a, 2), (a, 3), (a, 4), (a + 1, 0)] u (sI u a k x) := fun k x u hk => by
    have : k = 0 ∨ k = 1 ∨ k = 2 ∨ k = 3 := by omega
    rcases this with rfl | rfl | rfl | rfl <;> exact fr_sI (by simp [wm])
  have fav : ∀ u : HS, Fr [(a, 1), (a, 2), (a, 3), (a, 4), (a + 1, 0)] s u → Fr [(a, 0), (a + 1, 0)] s u := fun u f => by
    rcases okX7_c ha with rfl | rfl | rfl | rfl | rfl | rfl <;> exact f.mono (by decide)
  have key1 : ∀ e k, k + e = h → ∀ s1, Fr [(a, 1), (a, 2), (a, 3), (a, 4), (a + 1, 0)] s s1 → (∀ i, i < k → s1.1 (a + 1) i = t.1 111 i) → ∃ s', (∀ f, e < f → f_X7_startWith_l28 a p f (I k) s1 = some s') ∧ Fr [(a, 1), (a, 2), (a, 3), (a, 4), (a + 1, 0)] s s' ∧ (∀ i, i < h → s'.1 (a + 1) i = t.1 111 i) ∧ s'.1 a = s1.1 a := by
    intro e
    induction e with
    | zero =>
      intro k hk s1 f1 g1
      have hk : k = h := by omega
      subst hk
      have P1 := P.fr (M := []) (fav _ f1) Fr.refl hap (by decide)
      refine ⟨s1, fun f hf => ?_, f1, g1, rfl⟩
      obtain ⟨f', rfl⟩ : ∃ f', f = f' + 1 := ⟨f - 1, by omega⟩
      simp only [f_X7_startWith_l28, f_X7_startWith_l28b, P1.hc, if_pos (Int32.le_refl _)]
    | succ e ih =>
      intro k hk s1 f1 g1
      have P1 := P.fr (M := []) (fav _ f1) Fr.refl hap (by decide)
      have nk : ¬ I h ≤ I k := by rw [I_le (by omega) (by omega)]; omega
      have i5 : inb (I k) 5 = true := inb_t (by omega) (by omega)
      have kk : (I k).toNatClampNeg = k := I_nat (by omega)
      have v4 : s1.1 (tS p k) 4 = t.1 111 k := by have := (P1.tt (show k < h by omega)).2.2.2.1.1; rw [show 5 * 0 + k = k from by omega] at this; exact this
      obtain ⟨s', h1, h2, h3, h4⟩ := ih (k + 1) (by omega) (sI s1 (a + 1) k (t.1 111 k)) (f1.trans (fr_sI (by simp [wm]))) (fun q hq => by
        rw [sI_s]
        by_cases z : q = k
        · subst z; rw [if_pos (Eq.refl _)]
        · rw [if_neg z]; exact g1 q (by omega))
      refine ⟨s', fun f hf => ?_, h2, h3, by rw [h4, sI_n _ _ _ (by omega)]⟩
      obtain ⟨f', rfl⟩ : ∃ f', f = f' + 1 := ⟨f - 1, by omega⟩
      simp only [f_X7_startWith_l28, f_X7_startWith_l28b, P1.hc, if_neg nk, i5, gd_t, kk, o4, ltb_t, I_succ]
      rw [show Rf (Rf p 13) k = tS p k from rfl, v4]
      exact h1 f' (by omega)
  have key2 : ∀ e k, k + e = 5 → ∀ t1, Fr [(145, 0)] t t1 → (∀ i, i < k → i < h → t1.1 145 (4 + i) = t.1 111 i) → ∃ t', (∀ f, e < f → f_X12_fresh_l40 f (I k) t1 = some t') ∧ Fr [(145, 0)] t t' ∧ (∀ i, i < h → t'.1 145 (4 + i) = t.1 111 i) ∧ ∀ q, q < 4 → t'.1 145 q = t1.1 145 q := by
    intro e
    induction e with
    | zero =>
      intro k hk t1 f1 g1
      have hk : k = 5 := by omega
      subst hk
      refine ⟨t1, fun f hf => ?_, f1, fun i hi => g1 i (by omega) hi, fun _ _ => rfl⟩
      obtain ⟨f', rfl⟩ : ∃ f', f = f' + 1 := ⟨f - 1, by omega⟩
      simp only [f_X12_fresh_l40, f_X12_fresh_l40b]
      exact if_pos (by decide)
    | succ e ih =>
      intro k hk t1 f1 g1
      have n5 : ¬ (5 : Int32) ≤ I k := by rw [show (5 : Int32) = I 5 from litI 5, I_le (by omega) (by omega)]; omega
      have e4 : (4 : Int32) + I k = I (4 + k) := by rw [show (4 : Int32) = I 4 from litI 4, I_add]
      have i9 : inb (I (4 + k)) 9 = true := inb_t (by omega) (by omega)
      have i10 : inb (I k) 10 = true := inb_t (by omega) (by omega)
      have kk : (I k).toNatClampNeg = k := I_nat (by omega)
      have k4 : (I (4 + k)).toNatClampNeg = 4 + k := I_nat (by omega)
      have hm : t1.1 103 1 = I h := by rw [f1.o (by decide)]; exact P.hm
      have o111 : t1.1 111 = t.1 111 := f1.o (by decide)
      obtain ⟨t', h1, h2, h3, h4⟩ := ih (k + 1) (by omega) (sI t1 145 (4 + k) (if h ≤ k then 0 else t.1 111 k)) (f1.trans (fr_sI (by simp [wm]))) (fun q hq hq' => by
        rw [sI_s]
        by_cases z : q = k
        · subst z; rw [if_pos (Eq.refl _), if_neg (by omega)]
        · rw [if_neg (by omega)]; exact g1 q (by omega) hq')
      refine ⟨t', fun f hf => ?_, h2, h3, fun q hq => by rw [h4 q hq, sI_s, if_neg (by omega)]⟩
      obtain ⟨f', rfl⟩ : ∃ f', f = f' + 1 := ⟨f - 1, by omega⟩
      by_cases z : h ≤ k
      · have nk : I h ≤ I k := by rw [I_le (by omega) (by omega)]; omega
        rw [if_pos z] at h1
        simp only [f_X12_fresh_l40, f_X12_fresh_l40b, if_neg n5, hm, if_pos nk, e4, i9, gd_t, k4, ltb_t, I_succ]
        exact h1 f' (by omega)
      · have nk : ¬ I h ≤ I k := by rw [I_le (by omega) (by omega)]; omega
        rw [if_neg z] at h1
        simp only [f_X12_fresh_l40, f_X12_fresh_l40b, if_neg n5, hm, if_neg nk, e4, i9, i10, gd_t, k4, kk, o111, ltb_t, I_succ]
        exact h1 f' (by omega)
  have na : ∀ (u : HS) (k : Nat) (x : Int32), (sI u a k x).1 p = u.1 p := fun u k x => sI_n _ _ _ (by
    have := av1_o hap (s := s) (s' := s)
    rcases okX7_c ha with rfl | rfl | rfl | rfl | rfl | rfl <;> rcases okX4_c P.1 with rfl | rfl <;> decide)
  obtain ⟨s', k1, k2, k3, k4⟩ := key1 h 0 (by omega) (sI (sI (sI (sI s a 0 0) a 1 (s.1 p 1)) a 2 0) a 3 (s.1 p 2)) ((hs0 0 _ _ (by omega)).trans ((hs0 1 _ _ (by omega)).trans ((hs0 2 _ _ (by omega)).trans (hs0 3 _ _ (by omega))))) (fun i hi => by omega)
  obtain ⟨t', l1, l2, l3, l4⟩ := key2 5 0 (by omega) (sI (sI (sI (sI t 145 0 0) 145 1 (t.1 103 4)) 145 2 0) 145 3 (t.1 103 5)) ((fr_sI (by decide)).trans ((fr_sI (by decide)).trans ((fr_sI (by decide)).trans (fr_sI (by decide))))) (fun i hi => by omega)
  have k1 := k1 FU (FU_lt (by omega))
  have l1 := l1 FU (FU_lt (by omega))
  rw [I_e0] at k1 l1
  obtain ⟨-, sc1, sc2, -, -, -, -, sc3⟩ := P.sc
  have sc1 : EqB (s.1 p 1) (t.1 103 4) 1 900 := sc1
  have sc2 : EqB (s.1 p 2) (t.1 103 5) 1 2 := sc2
  have sc3 : (t.1 103 4).toInt ≤ (t.1 103 3).toInt := sc3
  have pz : (1 : Int) ≤ (2 : Int) ^ n := by have : 1 ≤ 2 ^ n := Nat.one_le_two_pow; have q : ((2 ^ n : Nat) : Int) = (2 : Int) ^ n := by push_cast; rfl
                                            omega
  refine ⟨s', t', ?_, ?_, ⟨ha, ?_, ?_, ?_, ?_, fun i hi => ?_⟩, k2, l2⟩
  · unfold f_X7_startWith
    rw [ltb_t, ltb_t, ltb_t, ltb_t, na, na, na, na]
    exact k1
  · unfold f_X12_fresh
    have o : ∀ (u : HS) k x, (sI u 145 k x).1 103 = u.1 103 := fun u k x => sI_n _ _ _ (by decide)
    rw [ltb_t, ltb_t, ltb_t, ltb_t, o, o, o, o]
    exact l1
  · rw [k4, l4 0 (by omega)]
    simp only [sI_at, if_true, Nat.reduceEqDiff, if_false]
    exact ⟨rfl, by decide, by rw [show (0 : Int32).toInt = 0 from by decide]; omega⟩
  · rw [k4, l4 1 (by omega), l2.o (o := 103) (by decide)]
    simp only [sI_at, if_true, Nat.reduceEqDiff, if_false]
    exact ⟨sc1.1, sc1.2.1, sc3⟩
  · rw [k4, l4 2 (by omega)]
    simp only [sI_at, if_true, Nat.reduceEqDiff, if_false]
    exact ⟨rfl, by decide, by decide⟩
  · rw [k4, l4 3 (by omega)]
    simp only [sI_at, if_true, Nat.reduceEqDiff, if_false]
    exact sc2
  · rw [o4, k3 i hi, l3 i hi]
    have := (P.tt hi).2.2.2.1
    have e : 5 * 0 + i = i := by omega
    rw [e] at this
    exact ⟨rfl, this.2.1, this.2.2⟩
end JUDGED2
