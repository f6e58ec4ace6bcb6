/-! years -/
def J (n : Nat) : Int64 := Int64.ofNat n
theorem J_toInt {n : Nat} (h : n < 9223372036854775808) : (J n).toInt = (n : Int) := Int64.toInt_ofNat_of_lt h
theorem J_add (a b : Nat) : J a + J b = J (a + b) := (Int64.ofNat_add a b).symm
theorem J_mul (a b : Nat) : J a * J b = J (a * b) := (Int64.ofNat_mul a b).symm
theorem J_sub {a b : Nat} (h : b ≤ a) : J a - J b = J (a - b) := by
  have : J (a - b) + J b = J a := by rw [J_add, Nat.sub_add_cancel h]
  rw [← this]
  exact Int64.add_sub_cancel _ _
theorem J_div {a b : Nat} (ha : a < 9223372036854775808) (hb : b < 9223372036854775808) (h0 : 0 < b) : J a / J b = J (a / b) := by
  have hd : a / b ≤ a := Nat.div_le_self a b
  rw [← Int64.toInt_inj, Int64.toInt_div_of_ne_right _ _ (fun q => by
    have := congrArg Int64.toInt q
    rw [J_toInt hb] at this
    have m1 : (-1 : Int64).toInt = -1 := by decide
    omega), J_toInt ha, J_toInt hb, J_toInt (by omega), Int.tdiv_eq_ediv_of_nonneg (by omega)]
  rfl
theorem J_mod {a b : Nat} (ha : a < 9223372036854775808) (hb : b < 9223372036854775808) (h0 : 0 < b) : J a - J a / J b * J b = J (a % b) := by
  rw [J_div ha hb h0, J_mul, J_sub (Nat.div_mul_le_self a b)]
  congr 1
  have := Nat.mod_add_div a b
  rw [Nat.mul_comm] at this
  omega
theorem I_J {k : Nat} (h : k < 2147483648) : (I k).toInt64 = J k := by
  rw [← Int64.toInt_inj, Int32.toInt_toInt64, I_toInt h, J_toInt (by omega)]
theorem J_I {k : Nat} : (J k).toInt32 = I k := Int64.toInt32_ofNat'
def nxt (G : Nat) : Nat := (G * 1103515245 + 12345) % 2147483648
theorem nxt_lt (G : Nat) : nxt G < 2147483648 := Nat.mod_lt _ (by decide)
theorem nxt_e {G : Nat} (h : G < 2147483648) : ((J G * 1103515245) + 12345) - ((J G * 1103515245) + 12345) / 2147483648 * 2147483648 = J (nxt G) := by
  rw [show (1103515245 : Int64) = J 1103515245 from rfl, show (12345 : Int64) = J 12345 from rfl, show (2147483648 : Int64) = J 2147483648 from rfl, J_mul, J_add]
  have : G * 1103515245 ≤ 2147483647 * 1103515245 := Nat.mul_le_mul_right _ (by omega)
  exact J_mod (by omega) (by omega) (by omega)
theorem drw_e {G : Nat} (h : G < 2147483648) : (J G / 65536) - (J G / 65536) / 10 * 10 = J ((G / 65536) % 10) := by
  rw [show (65536 : Int64) = J 65536 from rfl, show (10 : Int64) = J 10 from rfl, J_div (by omega) (by omega) (by omega)]
  have : G / 65536 ≤ G := Nat.div_le_self _ _
  exact J_mod (by omega) (by omega) (by omega)
section YEARS
variable {p d c h n : Nat} {s t : HS}
theorem cmp_ge {r o : Nat} (hr : r < 2147483648) (ho : o < 2147483648) : 0 ≤ lg_cmp (J r) (I o).toInt64 ↔ I o ≤ I r := by
  rw [I_J ho, I_le ho hr]
  unfold lg_cmp
  have e1 : J r > J o ↔ o < r := by
    show J o < J r ↔ _
    rw [Int64.lt_iff_toInt_lt, J_toInt (by omega), J_toInt (by omega)]; omega
  have e2 : J r = J o ↔ r = o := by rw [← Int64.toInt_inj, J_toInt (by omega), J_toInt (by omega)]; omega
  by_cases z : o < r
  · rw [if_pos (e1.mpr z)]
    exact ⟨fun _ => by omega, fun _ => by decide⟩
  · rw [if_neg (fun q => z (e1.mp q))]
    by_cases y : r = o
    · rw [if_pos (e2.mpr y)]
      exact ⟨fun _ => by omega, fun _ => by decide⟩
    · rw [if_neg (fun q => y (e2.mp q))]
      exact ⟨fun q => absurd q (by decide), fun q => by omega⟩
theorem TRL.upd2 {s' t' : HS} (T : TRL p c h n s t) (f : Fr [(28, 0), (29, 0)] s s') (g : Fr [(145, 0), (101, 78)] t t') (A : HR 28 h n s' t') : TRL p c h n s' t' := by
  obtain ⟨q, P, -, O, D⟩ := T
  have av : av1 p [(28, 0), (29, 0)] = true := by rcases okX4_c P.1 with rfl | rfl <;> decide
  refine ⟨by rw [f.2.2.1 (by decide)]; exact q, P.fr f g av (by decide), A, O.fr P.1 f g av (by decide), ?_⟩
  unfold IDLE
  rw [g.1 101 61 (by decide), g.1 101 62 (by decide), g.1 101 64 (by decide)]; exact D
/-- who is out on a day -/
theorem r_drawn (T : TRL p c h n s t) : ∀ e k, k + e = n → ∀ (G X : Nat) (s1 t1 : HS), G < 2147483648 → X < 2 ^ k → Fr [(28, 1)] s s1 → s1.1 28 0 = I X → Fr [(101, 78)] t t1 → t1.2.1 101 77 = J G →
    ∃ G' X' s2 t2, G' < 2147483648 ∧ X' < 2 ^ n ∧ Fr [(28, 1)] s s2 ∧ s2.1 28 0 = I X' ∧ Fr [(101, 78)] t t2 ∧ t2.2.1 101 77 = J G' ∧ (∀ v2 v3 v6 v7 K f, e < f → f_X11_years_l71 v2 v3 v6 v7 K f (J G) (I k) s1 = K (J G') s2) ∧ (∀ v2 v3 v4 v5 v6 K f, e < f → f_X12_years_l69 v2 v3 v4 v5 v6 K f (I X) (I k) t1 = K (I X') t2) := by
  have P0 := T.2.1
  have hn := P0.n6
  have okp := okX4_c P0.1
  intro e
  induction e with
  | zero =>
    intro k hk G X s1 t1 hG hX f1 x1 g1 y1
    have hk : k = n := by omega
    subst hk
    have P : PL p 0 c h k s1 t1 := P0.fr f1 g1 (by rcases okp with rfl | rfl <;> decide) (by decide)
    refine ⟨G, X, s1, t1, hG, hX, f1, x1, g1, y1, fun v2 v3 v6 v7 K f hf => ?_, fun v2 v3 v4 v5 v6 K f hf => ?_⟩
    · obtain ⟨f', rfl⟩ : ∃ f', f = f' + 1 := ⟨f - 1, by omega⟩
      simp only [f_X11_years_l71, f_X11_years_l71b, f1.2.2.1 (by decide), T.1, P.1, gd_t, P.nc, if_pos (Int32.le_refl _)]
    · obtain ⟨f', rfl⟩ : ∃ f', f = f' + 1 := ⟨f - 1, by omega⟩
      simp only [f_X12_years_l69, f_X12_years_l69b, P.nm, if_pos (Int32.le_refl _)]
  | succ e ih =>
    intro k hk G X s1 t1 hG hX f1 x1 g1 y1
    have P : PL p 0 c h n s1 t1 := P0.fr f1 g1 (by rcases okp with rfl | rfl <;> decide) (by decide)
    have hk2 : ¬ I n ≤ I k := by rw [I_le (by omega) (by omega)]; omega
    have kk : (I k).toNatClampNeg = k := I_nat (by omega)
    have k6 : inb (I k) 6 = true := inb_t (by omega) (by omega)
    have k12 : inb (I k) 12 = true := inb_t (by omega) (by omega)
    have q1 : s1.2.2.1 = p := by rw [f1.2.2.1 (by decide)]; exact T.1
    have X64 : X < 64 := Nat.lt_of_lt_of_le hX (Nat.pow_le_pow_right (by omega) (by omega) : 2 ^ k ≤ 2 ^ 6)
    have hX' : X < 2 ^ (k + 1) := Nat.lt_of_lt_of_le hX (Nat.pow_le_pow_right (by omega) (by omega))
    have hO : EqB (s1.1 (bS p k) 3) (t1.1 115 k) 0 10 := by have := (P.bb (show k < n by omega)).2.2.1; simpa using this
    obtain ⟨od, o1, o2, -, o4⟩ := hO.of (by omega)
    have hr : (nxt G / 65536) % 10 < 10 := Nat.mod_lt _ (by decide)
    -- the draw, of the reference
    have g2 : Fr [(101, 78)] t1 (sL t1 101 77 (J (nxt G))) := fr_sL (by decide)
    have dr : f_X12_draws 10 t1 = some (I ((nxt G / 65536) % 10), sL t1 101 77 (J (nxt G))) := by
      unfold f_X12_draws
      have e0 : (sL t1 101 77 (J (nxt G))).2.1 101 77 = J (nxt G) := by simp [sL, up2]
      rw [y1, nxt_e hG, ltb_t, e0, show (10 : Int32).toInt64 = 10 from by decide, show (!((10 : Int64) == 0)) = true from by decide, gd_t, drw_e (nxt_lt G), J_I]
    have y2 : (sL t1 101 77 (J (nxt G))).2.1 101 77 = J (nxt G) := by simp [sL, up2]
    have o2' : (sL t1 101 77 (J (nxt G))).1 115 k = I od := o2
    have cmp : 0 ≤ lg_cmp (J ((nxt G / 65536) % 10)) (I od).toInt64 ↔ I od ≤ I ((nxt G / 65536) % 10) := cmp_ge (by omega) (by omega)
    by_cases z : I od ≤ I ((nxt G / 65536) % 10)
    · obtain ⟨G', X', s2, t2, r1, r2, r3, r4, r5, r6, r7, r8⟩ := ih (k + 1) (by omega) (nxt G) X s1 (sL t1 101 77 (J (nxt G))) (nxt_lt G) hX' f1 x1 (g1.trans g2) y2
      refine ⟨G', X', s2, t2, r1, r2, r3, r4, r5, r6, fun v2 v3 v6 v7 K f hf => ?_, fun v2 v3 v4 v5 v6 K f hf => ?_⟩
      · obtain ⟨f', rfl⟩ : ∃ f', f = f' + 1 := ⟨f - 1, by omega⟩
        simp only [f_X11_years_l71, f_X11_years_l71b, q1, P.1, gd_t, P.nc, if_neg hk2, nxt_e hG, ltb_t, k6, drw_e (nxt_lt G), kk, bS_f, o1, if_pos (cmp.mpr z), I_succ, r7 v2 v3 v6 v7 K f' (by omega)]
      · obtain ⟨f', rfl⟩ : ∃ f', f = f' + 1 := ⟨f - 1, by omega⟩
        simp only [f_X12_years_l69, f_X12_years_l69b, P.nm, if_neg hk2, dr, bnd2_t, k12, gd_t, kk, o2', if_pos z, ltb_t, Int32.or_zero, I_succ, r8 v2 v3 v4 v5 v6 K f' (by omega)]
    · have f2 : Fr [(28, 1)] s1 (sI s1 28 0 (I (X ||| 2 ^ k))) := fr_sI (by decide)
      obtain ⟨G', X', s2, t2, r1, r2, r3, r4, r5, r6, r7, r8⟩ := ih (k + 1) (by omega) (nxt G) (X ||| 2 ^ k) (sI s1 28 0 (I (X ||| 2 ^ k))) (sL t1 101 77 (J (nxt G))) (nxt_lt G) (Nat.or_lt_two_pow hX' (Nat.pow_lt_pow_right (by omega) (by omega))) (f1.trans f2) (sI_k _ _ _ _) (g1.trans g2) y2
      refine ⟨G', X', s2, t2, r1, r2, r3, r4, r5, r6, fun v2 v3 v6 v7 K f hf => ?_, fun v2 v3 v4 v5 v6 K f hf => ?_⟩
      · obtain ⟨f', rfl⟩ : ∃ f', f = f' + 1 := ⟨f - 1, by omega⟩
        simp only [f_X11_years_l71, f_X11_years_l71b, q1, P.1, gd_t, P.nc, if_neg hk2, nxt_e hG, ltb_t, k6, drw_e (nxt_lt G), kk, bS_f, o1, if_neg (fun q => z (cmp.mp q)), x1, orb X X64 k (by omega), I_succ, r7 v2 v3 v6 v7 K f' (by omega)]
      · obtain ⟨f', rfl⟩ : ∃ f', f = f' + 1 := ⟨f - 1, by omega⟩
        simp only [f_X12_years_l69, f_X12_years_l69b, P.nm, if_neg hk2, dr, bnd2_t, k12, gd_t, kk, o2', if_neg z, ltb_t, orb X X64 k (by omega), I_succ, r8 v2 v3 v4 v5 v6 K f' (by omega)]
theorem st_years (R : Rel p d c h n s t) (v w u : Int32) : ∃ x s' t', f_X11_years v w u s = some (x, s') ∧ f_X12_years v w u t = some (x, t') ∧ Rel p d c h n s' t' := by
  have R0 := R.t0
  have okp := okX4_c R.2.1.1
  have i0 : (0 : Int32).toInt = 0 := by decide
  have i1 : (1 : Int32).toInt = 1 := by decide
  have i2 : (2 : Int32).toInt = 2 := by decide
  have i60 : (60 : Int32).toInt = 60 := by decide
  have i9 : (9999 : Int32).toInt = 9999 := by decide
  by_cases ok : (0 ≤ v.toInt ∧ v.toInt ≤ 9999) ∧ (1 ≤ w.toInt ∧ w.toInt ≤ 60) ∧ (0 ≤ u.toInt ∧ u.toInt ≤ 2)
  case neg =>
    refine ⟨-1, s, sI t 101 0 0, ?_, ?_, R0⟩
    · unfold f_X11_years
      simp only [Int32.lt_iff_toInt_lt, Int32.le_iff_toInt_le, i0, i1, i2, i60, i9]
      by_cases a1 : v.toInt < 0
      · rw [if_pos a1]
      rw [if_neg a1]
      by_cases a2 : 9999 < v.toInt
      · rw [if_pos a2]
      rw [if_neg a2]
      by_cases a3 : w.toInt < 1
      · rw [if_pos a3]
      rw [if_neg a3]
      by_cases a4 : 60 < w.toInt
      · rw [if_pos a4]
      rw [if_neg a4]
      by_cases a5 : u.toInt < 0
      · rw [if_pos a5]
      rw [if_neg a5]
      by_cases a6 : u.toInt ≤ 2
      · exact absurd ⟨⟨by omega, by omega⟩, ⟨by omega, by omega⟩, ⟨by omega, a6⟩⟩ ok
      · rw [if_neg a6]
    · unfold f_X12_years
      rw [ltb_t (a := sI t 101 0 0)]
      by_cases a1 : 0 ≤ v.toInt ∧ v.toInt ≤ 9999
      · rw [within_1 (by rw [i0, i9]; exact a1), if_neg one_ne]
        by_cases a2 : 1 ≤ w.toInt ∧ w.toInt ≤ 60
        · rw [within_1 (by rw [i1, i60]; exact a2), if_neg one_ne]
          have a3 : ¬ (0 ≤ u.toInt ∧ u.toInt ≤ 2) := fun q => ok ⟨a1, a2, q⟩
          rw [within_0 (by rw [i0, i2]; omega), if_pos (Eq.refl _)]
        · rw [within_0 (by rw [i1, i60]; omega), if_pos (Eq.refl _)]
      · rw [within_0 (by rw [i0, i9]; omega), if_pos (Eq.refl _)]
  obtain ⟨a1, a2, a3⟩ := ok
  obtain ⟨S0, S1⟩ : ∃ S0 : Nat, v = I S0 ∧ S0 ≤ 9999 := ⟨v.toInt.toNat, I_of (by omega), by omega⟩
  obtain ⟨D, D1⟩ : ∃ D : Nat, w = I D ∧ 1 ≤ D ∧ D ≤ 60 := ⟨w.toInt.toNat, I_of (by omega), by omega, by omega⟩
  obtain ⟨rfl, S2⟩ := S1
  obtain ⟨rfl, D2, D3⟩ := D1
  obtain ⟨s2, e1, T0, f1⟩ := r_copy R
  have key : ∀ e k, k + e = D → ∀ (G : Nat) (x : Int32) (s t1 : HS), G < 2147483648 → TRL p c h n s t1 → t1.2.1 101 77 = J G → (∀ q, q ≠ 0 → t1.1 145 q = t.1 145 q) → ∃ y s' t', (∀ f, e < f → f_X11_years_l54 (I D) u f (J G) x (I k) s = some (y, s')) ∧ (∀ x3 K f, e < f → f_X12_years_l57 (I D) u x3 K f x (I k) t1 = K y t') ∧ (∀ q, q ≠ 0 → t'.1 145 q = t.1 145 q) := by
    intro e
    induction e with
    | zero =>
      intro k hk G x s t1 hG T hg ht
      have hk : k = D := by omega
      subst hk
      refine ⟨x, s, t1, fun f hf => ?_, fun x3 K f hf => ?_, ht⟩
      · obtain ⟨f', rfl⟩ : ∃ f', f = f' + 1 := ⟨f - 1, by omega⟩
        simp only [f_X11_years_l54, f_X11_years_l54b, if_pos (Int32.le_refl _)]
      · obtain ⟨f', rfl⟩ : ∃ f', f = f' + 1 := ⟨f - 1, by omega⟩
        simp only [f_X12_years_l57, f_X12_years_l57b, if_pos (Int32.le_refl _)]
    | succ e ih =>
      intro k hk G x s t1 hG T hg ht
      have hk2 : ¬ I D ≤ I k := by rw [I_le (by omega) (by omega)]; omega
      have hn := T.2.1.n6
      have f0 : Fr [(28, 1)] s (sI s 28 0 0) := fr_sI (by decide)
      obtain ⟨G', X', s3, t3, r1, r2, r3, r4, r5, r6, r7, r8⟩ := r_drawn T n 0 (by omega) G 0 (sI s 28 0 0) t1 hG (by decide) f0 (by rw [sI_k]; exact I0) Fr.refl hg
      have p2 : ((2 ^ n : Nat) : Int) = (2 : Int) ^ n := by push_cast; rfl
      have p64 : 2 ^ n ≤ 64 := (Nat.pow_le_pow_right (by omega) hn.2.2 : 2 ^ n ≤ 2 ^ 6)
      have gX : Fr [(145, 0), (101, 78)] t1 (sI t3 145 0 (I X')) := (r5.mono (by decide)).trans (fr_sI (by decide))
      have T3 : TRL p c h n s3 (sI t3 145 0 (I X')) := by
        refine T.upd2 (r3.mono (by decide)) gX ?_
        obtain ⟨b1, b2, b3, b4, b5, b6⟩ := T.2.2.1
        have o145 : t3.1 145 = t1.1 145 := r5.o (by decide)
        have o103 : t3.1 103 = t1.1 103 := r5.o (by decide)
        refine ⟨b1, ?_, ?_, ?_, ?_, fun i hi => ?_⟩
        · rw [r4, sI_k]; exact ⟨rfl, by rw [I_toInt (by omega)]; omega, by rw [I_toInt (by omega)]; omega⟩
        · rw [r3.1 28 1 (by decide), sI_s, if_neg (by decide), o145, sI_n _ _ _ (by decide), o103]; exact b3
        · rw [r3.1 28 2 (by decide), sI_s, if_neg (by decide), o145]; exact b4
        · rw [r3.1 28 3 (by decide), sI_s, if_neg (by decide), o145]; exact b5
        · have := b6 i hi
          rw [show Rf 28 4 = 29 from by decide] at this ⊢
          rw [r3.o (by decide), sI_s, if_neg (by omega), o145]; exact this
      obtain ⟨s4, t4, d1, d2, d3, d4, d5, d6, -, d8⟩ := r_pT T3
      have hg4 : t4.2.1 101 77 = J G' := by rw [d8.2.1 101 77 (by decide +kernel)]; exact r6
      have ht4 : ∀ q, q ≠ 0 → t4.1 145 q = t.1 145 q := fun q hq => by rw [d6, sI_s, if_neg hq, r5.o (by decide)]; exact ht q hq
      have r7' : ∀ v2 v3 v6 v7 K, f_X11_years_l71 v2 v3 v6 v7 K FU (J G) 0 (sI s 28 0 0) = K (J G') s3 := fun v2 v3 v6 v7 K => by
        rw [I0]; exact r7 v2 v3 v6 v7 K FU (FU_lt (by omega))
      have r8' : ∀ v2 v3 v4 v5 v6 K, f_X12_years_l69 v2 v3 v4 v5 v6 K FU 0 0 t1 = K (I X') t3 := fun v2 v3 v4 v5 v6 K => by
        rw [I0]; exact r8 v2 v3 v4 v5 v6 K FU (FU_lt (by omega))
      -- the day's sum
      have day : ∃ y : Int32, (∀ f, f_X11_years_l54 (I D) u (f + 1) (J G) x (I k) s = f_X11_years_l54 (I D) u f (J G') (x + y) (I (k + 1)) s4) ∧ ∀ x3 K f, f_X12_years_l57 (I D) u x3 K (f + 1) x (I k) t1 = f_X12_years_l57 (I D) u x3 K f (x + y) (I (k + 1)) t4 := by
        by_cases z0 : u = 0
        · obtain ⟨y, y1, y2⟩ := r_paid d5.2.1 d3.2.1 d4
          refine ⟨y, fun f => ?_, fun x3 K f => ?_⟩
          · simp only [f_X11_years_l54, f_X11_years_l54b, if_neg hk2, ltb_t, r7', d1, bnd_t, if_pos z0, y1, I_succ]
          · simp only [f_X12_years_l57, f_X12_years_l57b, if_neg hk2, r8', ltb_t, d2, bnd_t, if_pos z0, y2, I_succ]
        by_cases z1 : u = 1
        · obtain ⟨y, y1, y2⟩ := r_drunkInAll d5.2.1 d3.2.1 d4
          refine ⟨y, fun f => ?_, fun x3 K f => ?_⟩
          · simp only [f_X11_years_l54, f_X11_years_l54b, if_neg hk2, ltb_t, r7', d1, bnd_t, if_neg z0, if_pos z1, y1, I_succ]
          · simp only [f_X12_years_l57, f_X12_years_l57b, if_neg hk2, r8', ltb_t, d2, bnd_t, if_neg z0, if_pos z1, y2, I_succ]
        · obtain ⟨kb, b1, b2, b3⟩ := r_behind d5.2.1 d4
          refine ⟨bc (I kb), fun f => ?_, fun x3 K f => ?_⟩
          · simp only [f_X11_years_l54, f_X11_years_l54b, if_neg hk2, ltb_t, r7', d1, bnd_t, if_neg z0, if_neg z1, b2, bc_e, I_succ]
          · simp only [f_X12_years_l57, f_X12_years_l57b, if_neg hk2, r8', ltb_t, d2, bnd_t, if_neg z0, if_neg z1, b3, I_succ]
      obtain ⟨y0, y1, y2⟩ := day
      obtain ⟨y, s', t', g1, g2, g3⟩ := ih (k + 1) (by omega) G' (x + y0) s4 t4 r1 d5 hg4 ht4
      refine ⟨y, s', t', fun f hf => ?_, fun x3 K f hf => ?_, g3⟩
      · obtain ⟨f', rfl⟩ : ∃ f', f = f' + 1 := ⟨f - 1, by omega⟩
        rw [y1, g1 f' (by omega)]
      · obtain ⟨f', rfl⟩ : ∃ f', f = f' + 1 := ⟨f - 1, by omega⟩
        rw [y2, g2 x3 K f' (by omega)]
  have gL : Fr [(145, 0), (101, 78)] (sI t 101 0 0) (sL (sI t 101 0 0) 101 77 (J S0)) := fr_sL (by decide)
  have T1 : TRL p c h n s2 (sL (sI t 101 0 0) 101 77 (J S0)) := T0.upd2 Fr.refl gL (T0.2.2.1.eq rfl rfl rfl rfl)
  obtain ⟨y, s', t', g1, g2, g3⟩ := key D 0 (by omega) S0 0 s2 _ (by omega) T1 (by simp [sL, up2]) (fun q _ => by
    show (sI t 101 0 0).1 145 q = _
    rw [sI_n _ _ _ (by decide)])
  have g1 := g1 FU (FU_lt (by omega))
  have g2 := g2 ((sL (sI t 101 0 0) 101 77 (J S0)).1 145 0) (fun v35 s36 => ltb (sI s36 145 (0) ((sL (sI t 101 0 0) 101 77 (J S0)).1 145 0)) fun s37 => some (v35, s37)) FU (FU_lt (by omega))
  rw [← I0] at g1 g2
  have c1 : f_X11_years (I S0) (I D) u s = some (y, s') := by
    unfold f_X11_years
    rw [if_neg (by rw [Int32.lt_iff_toInt_lt, i0]; omega), if_neg (by rw [Int32.lt_iff_toInt_lt, i9]; omega), if_neg (by rw [Int32.lt_iff_toInt_lt, i1]; omega), if_neg (by rw [Int32.lt_iff_toInt_lt, i60]; omega), if_neg (by rw [Int32.lt_iff_toInt_lt, i0]; omega), if_pos (by rw [Int32.le_iff_toInt_le, i2]; omega), e1, bnd_t, ltb_t, I_J (by omega), g1]
  have c2 : f_X12_years (I S0) (I D) u t = some (y, sI t' 145 0 ((sL (sI t 101 0 0) 101 77 (J S0)).1 145 0)) := by
    unfold f_X12_years
    rw [ltb_t (a := sI t 101 0 0), within_1 (by rw [i0, i9]; exact a1), if_neg one_ne, within_1 (by rw [i1, i60]; exact a2), if_neg one_ne, within_1 (by rw [i0, i2]; exact a3), if_neg one_ne, ltb_t, ltb_t, I_J (by omega), g2, ltb_t]
  refine ⟨y, s', _, c1, c2, R.back (K := [(145, 0)]) (M' := L_X12_years.filter (fun q => q.1 != 145)) (w_X11_years _ _ _ s _ c1) ((w_X12_years _ _ _ t _ c2).mono (by decide +kernel)) (by rcases okp with rfl | rfl <;> decide +kernel) (by decide +kernel) (fun o k hk => ?_) (by decide)⟩
  have := wm1 hk
  subst this
  rw [sI_s]
  by_cases z : k = 0
  · rw [if_pos z, z]
    show (sI t 101 0 0).1 145 0 = _
    rw [sI_n _ _ _ (by decide)]
  · rw [if_neg z]; exact g3 k z
end YEARS
