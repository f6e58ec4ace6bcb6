/-! errand -/
theorem sh1 : ∀ n, n ≤ 6 → (1 : Int32) <<< (I n &&& 31) = I (2 ^ n) := by decide +kernel
theorem andn : ∀ W, W < 64 → ∀ V, V < 64 → I W &&& (I V ^^^ (-1 : Int32)) = I (W &&& (63 ^^^ V)) := by decide +kernel
section ERRAND
variable {p d c h n : Nat} {s t : HS}
theorem HR.eq {a : Nat} {s' t' : HS} (A : HR a h n s t) (e1 : s'.1 a = s.1 a) (e2 : s'.1 (a + 1) = s.1 (a + 1)) (e3 : t'.1 145 = t.1 145) (e4 : t'.1 103 = t.1 103) : HR a h n s' t' := by
  obtain ⟨a1, a2, a3, a4, a5, a6⟩ := A
  refine ⟨a1, by rw [e1, e3]; exact a2, by rw [e1, e3, e4]; exact a3, by rw [e1, e3]; exact a4, by rw [e1, e3]; exact a5, ?_⟩
  rw [okX7_4 a1, e2, e3, ← okX7_4 a1]; exact a6
/-- some of the BUYERS -/
theorem some_e (R : Rel p d c h n s t) (v : Int32) : (∃ V, 1 ≤ V ∧ V < 2 ^ n ∧ v = I V ∧ f_X11_isSome v s = some 1 ∧ ¬ v < 1 ∧ ¬ f_X12_allBuyers t < v) ∨ (f_X11_isSome v s = some 0 ∧ (v < 1 ∨ (¬ v < 1 ∧ f_X12_allBuyers t < v))) := by
  have hn := R.2.1.n6
  have p64 : 2 ^ n ≤ 64 := (Nat.pow_le_pow_right (by omega) hn.2.2 : 2 ^ n ≤ 2 ^ 6)
  have p1 : 1 ≤ 2 ^ n := Nat.one_le_two_pow
  have one : (1 : Int32).toInt = 1 := by decide
  have all : f_X12_allBuyers t = I (2 ^ n - 1) := by
    unfold f_X12_allBuyers
    rw [R.2.1.nm, sh1 n hn.2.2, show (1 : Int32) = I 1 from litI 1, I_sub p1]
  have alt : (f_X12_allBuyers t).toInt = ((2 ^ n : Nat) : Int) - 1 := by rw [all, I_toInt (by omega)]; omega
  have cls : f_X11_isSome v s = if v ≤ 0 then some 0 else if I (2 ^ n) ≤ v then some 0 else some 1 := by
    unfold f_X11_isSome
    rw [R.1.1, R.2.1.1, gd_t, R.2.1.nc, sh1 n hn.2.2]
  rw [cls]
  by_cases z : v ≤ 0
  · refine Or.inr ⟨by rw [if_pos z], Or.inl ?_⟩
    rw [Int32.le_iff_toInt_le, Int32.toInt_zero] at z
    rw [Int32.lt_iff_toInt_lt, one]; omega
  · have z0 := z
    rw [Int32.le_iff_toInt_le, Int32.toInt_zero] at z0
    have z1 : ¬ v < 1 := by rw [Int32.lt_iff_toInt_lt, one]; omega
    by_cases y : I (2 ^ n) ≤ v
    · refine Or.inr ⟨by rw [if_neg z, if_pos y], Or.inr ⟨z1, ?_⟩⟩
      rw [Int32.le_iff_toInt_le, I_toInt (by omega)] at y
      rw [Int32.lt_iff_toInt_lt, alt]; omega
    · have y0 := y
      rw [Int32.le_iff_toInt_le, I_toInt (by omega)] at y0
      exact Or.inl ⟨v.toInt.toNat, by omega, by omega, I_of (by omega), by rw [if_neg z, if_neg y], z1, by rw [Int32.lt_iff_toInt_lt, alt]; omega⟩
def ERL (p c h n : Nat) (v w0 : Int32) (t0 : HS) (s t : HS) : Prop := s.2.2.1 = p ∧ PL p 0 c h n s t ∧ HR 64 h n s (sI t 145 0 w0) ∧ OR p s t ∧ t.1 101 61 = 0 ∧ t.1 101 64 = -1 ∧ t.1 101 63 = v ∧ ∀ q, q ≠ 0 → t.1 145 q = t0.1 145 q
/-- one goes for all -/
theorem r_goes1 {V W : Nat} {t0 : HS} (hV : V < 2 ^ n) (hW : W < 2 ^ n) (E : ERL p c h n (I V) (I W) t0 s t) {b : Nat} (hb : b < n) (hbit : ((I V) >>> (I b &&& 31)) &&& (1 : Int32) = 1) :
    ∃ z s4 t4, f_X12_runs (sI (sI t 145 0 ((I W &&& (I V ^^^ (-1 : Int32))) ||| ((1 : Int32) <<< (I b &&& 31)))) 101 62 (I b)) = some t4 ∧ t4.1 151 b = z ∧ f_X12_goesAt (I b) t4 = some (s4.1 75 b) ∧ 0 ≤ (s4.1 75 b).toInt ∧ (z = -1 ∨ 0 ≤ z.toInt) ∧ f_X11_errandSecond (I V) (I b) s = some (if s4.1 75 b < z then -1 else z, s4) ∧ ERL p c h n (I V) (I W) t0 s4 t4 := by
  obtain ⟨q, P, A, O, D1, D2, D3, D4⟩ := E
  have hn := P.n6
  have okp := okX4_c P.1
  have p64 : 2 ^ n ≤ 64 := (Nat.pow_le_pow_right (by omega) hn.2.2 : 2 ^ n ≤ 2 ^ 6)
  have gW : Fr [(145, 0)] t (sI t 145 0 (I W)) := fr_sI (by decide)
  have av0 : av1 p [] = true := by rcases okp with rfl | rfl <;> decide
  obtain ⟨s2, e1, A2, f1⟩ := r_copyH (P.fr (L := []) Fr.refl gW av0 (by decide)) A
  have w64 : s2.1 64 0 = I W := by
    rw [f1.o (by decide), A.2.1.1, sI_k]
  obtain ⟨X, hX, hXe⟩ : ∃ X, X < 2 ^ n ∧ (I W &&& (I V ^^^ (-1 : Int32))) ||| ((1 : Int32) <<< (I b &&& 31)) = I X := by
    rw [andn W (by omega) V (by omega)]
    have le : W &&& (63 ^^^ V) ≤ W := Nat.and_le_left
    rw [orb _ (by omega) b (by omega)]
    exact ⟨_, Nat.or_lt_two_pow (by omega) (Nat.pow_lt_pow_right (by omega) hb), rfl⟩
  rw [hXe]
  have avc : av1 p (L_X7_copyHand 28) = true := by rcases okp with rfl | rfl <;> decide +kernel
  have fX : Fr [(28, 0)] s2 (sI s2 28 0 (I X)) := fr_sI (by decide)
  have gX : Fr [(145, 0)] t (sI t 145 0 (I X)) := fr_sI (by decide)
  have avx : av1 p [(28, 0)] = true := by rcases okp with rfl | rfl <;> decide
  have A3 : HR 28 h n (sI s2 28 0 (I X)) (sI t 145 0 (I X)) := by
    obtain ⟨a1, a2, a3, a4, a5, a6⟩ := A2
    refine ⟨a1, ?_, ?_, ?_, ?_, fun i hi => ?_⟩
    · rw [sI_k, sI_k]; exact ⟨rfl, by rw [I_toInt (by omega)]; omega, by
        rw [I_toInt (by omega)]
        have : ((2 ^ n : Nat) : Int) = (2 : Int) ^ n := by push_cast; rfl
        omega⟩
    all_goals simp only [show Rf 28 4 = 29 from by decide, sI_at, Nat.reduceEqDiff, if_true, if_false] at *
    · exact a3
    · exact a4
    · exact a5
    · have := a6 i hi
      rw [if_neg (by omega)] at this ⊢; exact this
  have P3 : PL p 0 c h n (sI s2 28 0 (I X)) (sI t 145 0 (I X)) := (P.fr (M := []) f1 Fr.refl avc (by decide)).fr fX gX avx (by decide)
  have O3 : OR p (sI s2 28 0 (I X)) (sI t 145 0 (I X)) := (O.fr P.1 (M := []) f1 Fr.refl avc (by decide)).fr P.1 fX gX avx (by decide)
  obtain ⟨s3, b1, b2, b3, b4, b5, b6, b7, b8, b9, b10⟩ := r_layOut p 28 (sI s2 28 0 (I X))
  have f2 : Fr [(73, 4), (73, 5)] s3 (sI (sI s3 73 3 (I V)) 73 4 (I b)) := (fr_sI (by decide)).trans (fr_sI (by decide))
  have h2 : Fr [(101, 63)] (sI t 145 0 (I X)) (sI (sI t 145 0 (I X)) 101 62 (I b)) := fr_sI (by decide)
  have avl : av1 p L_X6_layOut = true := by rcases okp with rfl | rfl <;> decide +kernel
  have av3' : av1 p [(73, 4), (73, 5)] = true := by rcases okp with rfl | rfl <;> decide +kernel
  obtain ⟨s4, t4, d1, d2, d3, d4, d5, d6⟩ := r_play (s := sI (sI s3 73 3 (I V)) 73 4 (I b)) (t := sI (sI t 145 0 (I X)) 101 62 (I b)) (a := 28) ((P3.fr (M := []) b2 Fr.refl avl (by decide)).fr f2 h2 av3' (by decide)) (by rw [f2.q3 (by decide)]; exact b3) (by rw [f2.q4 (by decide)]; exact b4) ((A3.fr (M := []) b2 Fr.refl (by decide +kernel) (by decide)).fr f2 h2 (by decide) (by decide))
    ⟨by simp only [sI_at, Nat.reduceEqDiff, if_true, if_false]; rw [b5, D1]; exact ⟨rfl, by decide, by decide⟩, Or.inr ⟨b, hb, by simp only [sI_at, Nat.reduceEqDiff, if_true, if_false], by simp only [sI_at, Nat.reduceEqDiff, if_true, if_false], by simp only [sI_at, Nat.reduceEqDiff, if_true, if_false]; exact D3.symm, by simp only [sI_at, Nat.reduceEqDiff, if_true, if_false]; rw [D3]; exact hbit, by simp only [sI_at, Nat.reduceEqDiff, if_true, if_false]; exact b8⟩, Or.inl ⟨by simp only [sI_at, Nat.reduceEqDiff, if_true, if_false]; exact b8, by simp only [sI_at, Nat.reduceEqDiff, if_true, if_false]; exact D2⟩⟩
    ((O3.fr P.1 (M := []) b2 Fr.refl avl (by decide)).fr P.1 f2 h2 av3' (by decide)) (Or.inl (by simp only [sI_at, Nat.reduceEqDiff, if_true, if_false]; exact D2))
  obtain ⟨r1, r2, r3, r4, r5⟩ := d4.1 b hb
  have b6' : inb (I b) 6 = true := inb_t (by omega) (by omega)
  have bb : (I b).toNatClampNeg = b := I_nat (by omega)
  have q3 : (sI s2 28 0 (I X)).2.2.1 = p := by rw [fX.2.2.1 (by decide), f1.2.2.1 (by decide)]; exact q
  refine ⟨t4.1 151 b, s4, t4, d2, rfl, r5, (d3.2.2.2.2.2.2.1 b hb).2.2.2.1.1, r4, ?_, ?_⟩
  · unfold f_X11_errandSecond
    rw [e1, bnd_t, w64, hXe, ltb_t, q3, P.1, gd_t, b1, bnd_t, ltb_t, ltb_t, d1, bnd_t, b6', gd_t, ltb_t, gd_t, bb, r3]
    by_cases z : s4.1 75 b < t4.1 151 b
    · rw [if_pos z, if_pos z]
    · rw [if_neg z, if_neg z]
  · have o145 : t4.1 145 = (sI t 145 0 (I X)).1 145 := by rw [d6.o (by decide +kernel), sI_n _ _ _ (by decide)]
    refine ⟨by rw [d5.2.2.1 (by decide +kernel), f2.2.2.1 (by decide), b2.2.2.1 (by decide +kernel)]; exact q3, d3.1, ?_, d3.2.2.2.2.2.1, by rw [d6.1 101 61 (by decide +kernel)]; simp only [sI_at, Nat.reduceEqDiff, if_true, if_false]; exact D1, by rw [d6.1 101 64 (by decide +kernel)]; simp only [sI_at, Nat.reduceEqDiff, if_true, if_false]; exact D2, by rw [d6.1 101 63 (by decide +kernel)]; simp only [sI_at, Nat.reduceEqDiff, if_true, if_false]; exact D3, fun x hx => by rw [o145, sI_s, if_neg hx]; exact D4 x hx⟩
    refine A.eq ?_ ?_ ?_ ?_
    · rw [d5.o (by decide +kernel), f2.o (by decide), b2.o (by decide +kernel), fX.o (by decide), f1.o (by decide)]
    · rw [d5.o (by decide +kernel), f2.o (by decide), b2.o (by decide +kernel), fX.o (by decide), f1.o (by decide)]
    · refine funext fun x => ?_
      rw [sI_s, sI_s]
      by_cases z : x = 0
      · rw [if_pos z, if_pos z]
      · rw [if_neg z, if_neg z, o145, sI_s, if_neg z]
    · rw [sI_n _ _ _ (by decide), sI_n _ _ _ (by decide), d6.o (by decide +kernel), sI_n _ _ _ (by decide), sI_n _ _ _ (by decide)]
/-- who is best, and when: the class's, the reference's -/
def ERw (n : Nat) (a b a' b' : Int32) : Prop := (a = -1 ∧ b = -1 ∧ a' = -1) ∨ ∃ k, k < n ∧ a = I k ∧ a' = I k ∧ b = b' ∧ 0 ≤ b.toInt
theorem st_errand (R : Rel p d c h n s t) (v w : Int32) : ∃ x s' t', f_X11_errand v w s = some (x, s') ∧ f_X12_errand v w t = some (x, t') ∧ Rel p d c h n s' t' := by
  have hn := R.2.1.n6
  have okp := okX4_c R.2.1.1
  have R0 := R.t0
  have two : (2 : Int32).toInt = 2 := by decide
  rcases some_e R0 v with ⟨V, V1, V2, rfl, a1, a2, a3⟩ | ⟨a1, a2⟩
  case inr =>
    refine ⟨-1, s, sI t 101 0 0, ?_, ?_, R0⟩
    · unfold f_X11_errand
      rw [a1, bnd_t, if_pos (Eq.refl _)]
    · unfold f_X12_errand
      rw [ltb_t (a := sI t 101 0 0)]
      rcases a2 with a2 | ⟨a2, a3⟩
      · rw [if_pos a2]
      · rw [if_neg a2, if_pos a3]
  by_cases z1 : w < 0
  · refine ⟨-1, s, sI t 101 0 0, ?_, ?_, R0⟩
    · unfold f_X11_errand
      rw [a1, bnd_t, if_neg one_ne, if_pos z1]
    · rw [Int32.lt_iff_toInt_lt] at z1
      unfold f_X12_errand
      rw [ltb_t (a := sI t 101 0 0), if_neg a2, if_neg a3, within_0 (Or.inl z1), if_pos (Eq.refl _)]
  by_cases z2 : w ≤ 2
  case neg =>
    refine ⟨-1, s, sI t 101 0 0, ?_, ?_, R0⟩
    · unfold f_X11_errand
      rw [a1, bnd_t, if_neg one_ne, if_neg z1, if_neg z2]
    · rw [Int32.le_iff_toInt_le] at z2
      unfold f_X12_errand
      rw [ltb_t (a := sI t 101 0 0), if_neg a2, if_neg a3, within_0 (Or.inr (by omega)), if_pos (Eq.refl _)]
  have wi : f_X12_within w 0 2 (sI t 101 0 0) = 1 := within_1 (by
    rw [Int32.lt_iff_toInt_lt] at z1
    rw [Int32.le_iff_toInt_le] at z2
    omega)
  have p64 : 2 ^ n ≤ 64 := (Nat.pow_le_pow_right (by omega) hn.2.2 : 2 ^ n ≤ 2 ^ 6)
  obtain ⟨W, -, W1, W2, W3⟩ := R0.2.2.1.2.1.of (by omega)
  have W4 : W < 2 ^ n := by
    have : ((2 ^ n : Nat) : Int) = (2 : Int) ^ n := by push_cast; rfl
    omega
  have key : ∀ e k, k + e = n → ∀ (can a b a' b' : Int32) (s t1 : HS), ERw n a b a' b' → ERL p c h n (I V) (I W) (sI t 101 0 0) s t1 → ∃ can' x y x' y' s' t', ERw n x y x' y' ∧ (∀ K f, e < f → f_X11_errand_l30 (I V) w K f can a b (I k) s = K can' x y s') ∧ (∀ K f, e < f → f_X12_errand_l53 (I V) w (I W) K f can a' b' (I k) t1 = K can' x' y' t') ∧ ERL p c h n (I V) (I W) (sI t 101 0 0) s' t' := by
    intro e
    induction e with
    | zero =>
      intro k hk can a b a' b' s t1 hr E
      have hk : k = n := by omega
      subst hk
      refine ⟨can, a, b, a', b', s, t1, hr, fun K f hf => ?_, fun K f hf => ?_, E⟩
      · obtain ⟨f', rfl⟩ : ∃ f', f = f' + 1 := ⟨f - 1, by omega⟩
        simp only [f_X11_errand_l30, f_X11_errand_l30b, E.1, E.2.1.1, gd_t, E.2.1.nc, if_pos (Int32.le_refl _)]
      · obtain ⟨f', rfl⟩ : ∃ f', f = f' + 1 := ⟨f - 1, by omega⟩
        simp only [f_X12_errand_l53, f_X12_errand_l53b, E.2.1.nm, if_pos (Int32.le_refl _)]
    | succ e ih =>
      intro k hk can a b a' b' s t1 hr E
      have hk2 : ¬ I n ≤ I k := by rw [I_le (by omega) (by omega)]; omega
      have k6 : inb (I k) 6 = true := inb_t (by omega) (by omega)
      have kk : (I k).toNatClampNeg = k := I_nat (by omega)
      by_cases z : ((I V) >>> (I k &&& 31)) &&& (1 : Int32) = 0
      · obtain ⟨can', x, y, x', y', s', t', g0, g1, g2, g3⟩ := ih (k + 1) (by omega) can a b a' b' s t1 hr E
        refine ⟨can', x, y, x', y', s', t', g0, fun K f hf => ?_, fun K f hf => ?_, g3⟩
        · obtain ⟨f', rfl⟩ : ∃ f', f = f' + 1 := ⟨f - 1, by omega⟩
          simp only [f_X11_errand_l30, f_X11_errand_l30b, E.1, E.2.1.1, gd_t, E.2.1.nc, if_neg hk2, if_pos z, f_X11_errand_j62, if_true, ltb_t, I_succ, g1 K f' (by omega)]
        · obtain ⟨f', rfl⟩ : ∃ f', f = f' + 1 := ⟨f - 1, by omega⟩
          simp only [f_X12_errand_l53, f_X12_errand_l53b, E.2.1.nm, if_neg hk2, if_pos z, f_X12_errand_j173, ltb_t, I_succ, g2 K f' (by omega)]
      obtain ⟨q, s4, t4, d1, d2, d3, d4, d5, d6, E4⟩ := r_goes1 V2 W4 E (show k < n by omega) (and1_n0 z)
      -- both as they were
      have pre1 : ∀ K f, f_X11_errand_l30 (I V) w K (f + 1) can a b (I k) s = f_X11_errand_j62 (I V) w can a b (I k) (if s4.1 75 k < q then -1 else q) (f_X11_errand_l30 (I V) w K f) s4 := fun K f => by
        simp only [f_X11_errand_l30, f_X11_errand_l30b, E.1, E.2.1.1, gd_t, E.2.1.nc, if_neg hk2, if_neg z, d6, bnd2_t]
      have pre2 : ∀ K f, f_X12_errand_l53 (I V) w (I W) K (f + 1) can a' b' (I k) t1 = if q < 0 then f_X12_errand_l53 (I V) w (I W) K f can a' b' (I (k + 1)) t4 else (if q ≤ s4.1 75 k then (if a' < 0 then f_X12_errand_l53 (I V) w (I W) K f (can ||| ((1 : Int32) <<< (I k &&& 31))) (I k) q (I (k + 1)) t4 else if q < b' then f_X12_errand_l53 (I V) w (I W) K f (can ||| ((1 : Int32) <<< (I k &&& 31))) (I k) q (I (k + 1)) t4 else f_X12_errand_l53 (I V) w (I W) K f (can ||| ((1 : Int32) <<< (I k &&& 31))) a' b' (I (k + 1)) t4) else f_X12_errand_l53 (I V) w (I W) K f can a' b' (I (k + 1)) t4) := fun K f => by
        simp only [f_X12_errand_l53, f_X12_errand_l53b, E.2.1.nm, if_neg hk2, if_neg z, ltb_t, d1, bnd_t, k6, gd_t, kk, d2, d3, f_X12_errand_j173, f_X12_errand_j160, f_X12_errand_j173_4, I_succ]
      have skip : (∀ K f, f_X11_errand_l30 (I V) w K (f + 1) can a b (I k) s = f_X11_errand_l30 (I V) w K f can a b (I (k + 1)) s4) → (∀ K f, f_X12_errand_l53 (I V) w (I W) K (f + 1) can a' b' (I k) t1 = f_X12_errand_l53 (I V) w (I W) K f can a' b' (I (k + 1)) t4) → ∃ can' x y x' y' s' t', ERw n x y x' y' ∧ (∀ K f, e + 1 < f → f_X11_errand_l30 (I V) w K f can a b (I k) s = K can' x y s') ∧ (∀ K f, e + 1 < f → f_X12_errand_l53 (I V) w (I W) K f can a' b' (I k) t1 = K can' x' y' t') ∧ ERL p c h n (I V) (I W) (sI t 101 0 0) s' t' := by
        intro c1 c2
        obtain ⟨can', x, y, x', y', s', t', g0, g1, g2, g3⟩ := ih (k + 1) (by omega) can a b a' b' s4 t4 hr E4
        refine ⟨can', x, y, x', y', s', t', g0, fun K f hf => ?_, fun K f hf => ?_, g3⟩
        · obtain ⟨f', rfl⟩ : ∃ f', f = f' + 1 := ⟨f - 1, by omega⟩
          rw [c1, g1 K f' (by omega)]
        · obtain ⟨f', rfl⟩ : ∃ f', f = f' + 1 := ⟨f - 1, by omega⟩
          rw [c2, g2 K f' (by omega)]
      have can2 : ∀ A B A' B', ERw n A B A' B' → (∀ K f, f_X11_errand_l30 (I V) w K (f + 1) can a b (I k) s = f_X11_errand_l30 (I V) w K f (can ||| ((1 : Int32) <<< (I k &&& 31))) A B (I (k + 1)) s4) → (∀ K f, f_X12_errand_l53 (I V) w (I W) K (f + 1) can a' b' (I k) t1 = f_X12_errand_l53 (I V) w (I W) K f (can ||| ((1 : Int32) <<< (I k &&& 31))) A' B' (I (k + 1)) t4) → ∃ can' x y x' y' s' t', ERw n x y x' y' ∧ (∀ K f, e + 1 < f → f_X11_errand_l30 (I V) w K f can a b (I k) s = K can' x y s') ∧ (∀ K f, e + 1 < f → f_X12_errand_l53 (I V) w (I W) K f can a' b' (I k) t1 = K can' x' y' t') ∧ ERL p c h n (I V) (I W) (sI t 101 0 0) s' t' := by
        intro A B A' B' hr' c1 c2
        obtain ⟨can', x, y, x', y', s', t', g0, g1, g2, g3⟩ := ih (k + 1) (by omega) _ A B A' B' s4 t4 hr' E4
        refine ⟨can', x, y, x', y', s', t', g0, fun K f hf => ?_, fun K f hf => ?_, g3⟩
        · obtain ⟨f', rfl⟩ : ∃ f', f = f' + 1 := ⟨f - 1, by omega⟩
          rw [c1, g1 K f' (by omega)]
        · obtain ⟨f', rfl⟩ : ∃ f', f = f' + 1 := ⟨f - 1, by omega⟩
          rw [c2, g2 K f' (by omega)]
      have m1 : (-1 : Int32).toInt = -1 := by decide
      by_cases y0 : q = -1
      · -- never served
        have n1 : ¬ s4.1 75 k < q := by rw [y0, Int32.lt_iff_toInt_lt, m1]; omega
        have n2 : q < 0 := by rw [y0]; decide
        refine skip (fun K f => ?_) (fun K f => ?_)
        · rw [pre1, if_neg n1]; unfold f_X11_errand_j62; rw [if_pos y0, ltb_t, I_succ]
        · rw [pre2, if_pos n2]
      have d5 := d5.resolve_left y0
      have n2 : ¬ q < 0 := by rw [Int32.lt_iff_toInt_lt, Int32.toInt_zero]; omega
      by_cases y1 : s4.1 75 k < q
      · -- too late
        have y2 : ¬ q ≤ s4.1 75 k := Int32.not_le.mpr y1
        refine skip (fun K f => ?_) (fun K f => ?_)
        · rw [pre1, if_pos y1]; unfold f_X11_errand_j62; rw [if_pos (Eq.refl _), ltb_t, I_succ]
        · rw [pre2, if_neg n2, if_neg y2]
      have y2 : q ≤ s4.1 75 k := Int32.not_lt.mp y1
      have pre1' : ∀ K f, f_X11_errand_l30 (I V) w K (f + 1) can a b (I k) s = if a = -1 then f_X11_errand_l30 (I V) w K f (can ||| ((1 : Int32) <<< (I k &&& 31))) (I k) q (I (k + 1)) s4 else if b ≤ q then f_X11_errand_l30 (I V) w K f (can ||| ((1 : Int32) <<< (I k &&& 31))) a b (I (k + 1)) s4 else f_X11_errand_l30 (I V) w K f (can ||| ((1 : Int32) <<< (I k &&& 31))) (I k) q (I (k + 1)) s4 := fun K f => by
        rw [pre1, if_neg y1]
        unfold f_X11_errand_j62
        rw [if_neg y0]
        simp only [ltb_t, f_X11_errand_j90, I_succ]
      rcases hr with ⟨rfl, rfl, rfl⟩ | ⟨j, j1, rfl, rfl, rfl, j5⟩
      · exact can2 (I k) q (I k) q (Or.inr ⟨k, by omega, rfl, rfl, rfl, d5⟩) (fun K f => by rw [pre1', if_pos (Eq.refl _)]) (fun K f => by rw [pre2, if_neg n2, if_pos y2, if_pos (by decide)])
      · have nj : ¬ I j = -1 := I_nn (by omega)
        have nj' : ¬ I j < 0 := by rw [I0, I_lt (by omega) (by omega)]; omega
        by_cases y3 : b ≤ q
        · exact can2 (I j) b (I j) b (Or.inr ⟨j, j1, rfl, rfl, rfl, j5⟩) (fun K f => by rw [pre1', if_neg nj, if_pos y3]) (fun K f => by rw [pre2, if_neg n2, if_pos y2, if_neg nj', if_neg (Int32.not_lt.mpr y3)])
        · exact can2 (I k) q (I k) q (Or.inr ⟨k, by omega, rfl, rfl, rfl, d5⟩) (fun K f => by rw [pre1', if_neg nj, if_neg y3]) (fun K f => by rw [pre2, if_neg n2, if_pos y2, if_neg nj', if_pos (Int32.not_le.mp y3)])
  have g0 : Fr [(101, 64)] (sI t 101 0 0) (sI (sI t 101 0 0) 101 63 (I V)) := fr_sI (by decide)
  have av0 : av1 p [] = true := by rcases okp with rfl | rfl <;> decide
  have E0 : ERL p c h n (I V) (I W) (sI t 101 0 0) s (sI (sI t 101 0 0) 101 63 (I V)) := by
    refine ⟨R.1.1, R0.2.1.fr (L := []) Fr.refl g0 av0 (by decide), R0.2.2.1.eq rfl rfl ?_ ?_, R0.2.2.2.1.fr R.2.1.1 (L := []) Fr.refl g0 av0 (by decide), ?_, ?_, by rw [sI_k], fun q _ => by rw [g0.o (by decide)]⟩
    · refine funext fun x => ?_
      rw [sI_s, g0.o (by decide)]
      by_cases z : x = 0
      · rw [if_pos z, z]; exact W1.symm
      · rw [if_neg z]
    · rw [sI_n _ _ _ (by decide), g0.o (by decide)]
    · rw [g0.1 101 61 (by decide)]; exact R0.2.2.2.2.2.1.1
    · rw [g0.1 101 64 (by decide)]; exact R0.2.2.2.2.2.1.2.2
  obtain ⟨can', x, y, x', y', s', t', g4, g1, g2, E'⟩ := key n 0 (by omega) 0 (-1) (-1) (-1) 0 s _ (Or.inl ⟨rfl, rfl, rfl⟩) E0
  have g1 := g1 (fun v17 v18 v19 s20 => (if w = 0 then some (v17, s20) else (if w = 1 then some (v18, s20) else some (v19, s20)))) FU (FU_lt (by omega))
  have g2 := g2 (fun v28 v29 v30 s31 => ltb (sI s31 101 62 (-1)) fun s32 => ltb (sI s32 145 (0) (I W)) fun s33 => (if w = 0 then some (v28, s33) else (if 0 ≤ v29 then (if w = 1 then some (v29, s33) else some (v30, s33)) else some ((-1), s33)))) FU (FU_lt (by omega))
  rw [← I0] at g1 g2
  have c1 : f_X11_errand (I V) w s = some (if w = 0 then can' else if w = 1 then x else y, s') := by
    unfold f_X11_errand
    rw [a1, bnd_t, if_neg one_ne, if_neg z1, if_pos z2, g1]
    by_cases q0 : w = 0
    · rw [if_pos q0, if_pos q0]
    · rw [if_neg q0, if_neg q0]
      by_cases q1 : w = 1
      · rw [if_pos q1, if_pos q1]
      · rw [if_neg q1, if_neg q1]
  have c2 : f_X12_errand (I V) w t = some (if w = 0 then can' else if w = 1 then x else y, sI (sI t' 101 62 (-1)) 145 0 (I W)) := by
    unfold f_X12_errand
    rw [ltb_t (a := sI t 101 0 0), if_neg a2, if_neg a3, wi, if_neg one_ne, W1, ltb_t, ltb_t, g2, ltb_t, ltb_t]
    by_cases q0 : w = 0
    · rw [if_pos q0, if_pos q0]
    · rw [if_neg q0, if_neg q0]
      rcases g4 with ⟨rfl, rfl, rfl⟩ | ⟨k, k1, rfl, rfl, rfl, -⟩
      · rw [if_neg (by decide)]
        by_cases q1 : w = 1
        · rw [if_pos q1]
        · rw [if_neg q1]
      · have k0 : (0 : Int32) ≤ I k := by rw [I0, I_le (by omega) (by omega)]; omega
        rw [if_pos k0]
        by_cases q1 : w = 1
        · rw [if_pos q1, if_pos q1]
        · rw [if_neg q1, if_neg q1]
  refine ⟨_, s', _, c1, c2, R.back (K := [(145, 0), (101, 63)]) (M' := L_X12_errand.filter (fun q => q.1 != 145 && q != (101, 63))) (w_X11_errand (I V) w s _ c1) ((w_X12_errand (I V) w t _ c2).mono (by decide +kernel)) (by rcases okp with rfl | rfl <;> decide +kernel) (by decide +kernel) (fun o k hk => ?_) (by decide)⟩
  simp only [wm, List.any_cons, List.any_nil, Bool.or_false, Bool.or_eq_true, Bool.and_eq_true, beq_iff_eq] at hk
  rcases hk with ⟨rfl, -⟩ | ⟨rfl, hk⟩
  · rw [sI_s, sI_n _ _ _ (by decide)]
    by_cases z : k = 0
    · rw [if_pos z, z]
      have := W1
      rw [sI_n _ _ _ (by decide)] at this
      exact this.symm
    · rw [if_neg z]
      have := E'.2.2.2.2.2.2.2 k z
      rw [sI_n _ _ _ (by decide)] at this
      exact this
  · have : k = 62 := by omega
    subst this
    rw [sI_n _ _ _ (by decide), sI_k]
    exact R.2.2.2.2.2.1.2.1.symm
end ERRAND
