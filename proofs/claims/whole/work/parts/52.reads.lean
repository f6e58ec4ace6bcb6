/-! Calls that only read -/
theorem litI (k : Nat) : (OfNat.ofNat k : Int32) = I k := by unfold I; exact Eq.refl _
theorem r36 (v : Int32) (N : Nat) (hN : N < 1000000) (s : HS) : (∃ k, k ≤ N ∧ v = I k ∧ ¬ v < 0 ∧ ¬ I N < v ∧ v ≤ I N ∧ f_X12_within v 0 (I N) s = 1) ∨ ((v < 0 ∨ (¬ v < 0 ∧ I N < v ∧ ¬ v ≤ I N)) ∧ f_X12_within v 0 (I N) s = 0) := by
  rcases small v N hN with ⟨k, k1, rfl⟩ | z
  · refine Or.inl ⟨k, k1, rfl, ?_, ?_, ?_, within_1 ?_⟩
    · rw [I0, I_lt (by omega) (by omega)]; omega
    · rw [I_lt (by omega) (by omega)]; omega
    · rw [I_le (by omega) (by omega)]; omega
    · rw [Int32.toInt_zero, I_toInt (by omega), I_toInt (by omega)]; omega
  · refine Or.inr ⟨?_, within_0 ?_⟩
    · rw [Int32.lt_iff_toInt_lt, Int32.lt_iff_toInt_lt, Int32.le_iff_toInt_le, Int32.toInt_zero, I_toInt (by omega)]; omega
    · rw [Int32.toInt_zero, I_toInt (by omega)]; omega
section READS
variable {p d c h n : Nat} {s t : HS}
theorem r_tray_l (P : PL p 0 c h n s t) {i m : Nat} (dr : Int32) (hi : i < n) (m2 : m ≤ 3) (m3 : s.1 (bS p i) 6 = I m) (m4 : t.1 118 i = I m) (m5 : ∀ k, k < m → ∃ w, w < h ∧ s.1 (Rf (bS p i) 5) k = I w ∧ t.1 117 (3 * i + k) = I w) :
    ∀ d k, k + d = m → ∃ y : Int32, (∀ b f, d < f → f_X4_priceFor_l4 p (I i) s f b (I k) = some (b + y)) ∧ (∀ (v3 : Int32) K b f, d < f → f_X12_trayOf_l57 dr v3 (I i) K t f b (I k) = K (b + (y + I d * dr))) := by
  have hn := P.n6
  have i6 : inb (I i) 6 = true := inb_t (by omega) (by omega)
  have i12 : inb (I i) 12 = true := inb_t (by omega) (by omega)
  have ii : (I i).toNatClampNeg = i := I_nat (by omega)
  intro d
  induction d with
  | zero =>
    intro k hk
    have hkm : I m ≤ I k := by rw [I_le (by omega) (by omega)]; omega
    refine ⟨0, fun b f hf => ?_, fun v3 K b f hf => ?_⟩
    · obtain ⟨f', rfl⟩ : ∃ f', f = f' + 1 := ⟨f - 1, by omega⟩
      simp only [f_X4_priceFor_l4, f_X4_priceFor_l4b, bS_f, i6, gd_t, ii, m3, if_pos hkm, Int32.add_zero]
    · obtain ⟨f', rfl⟩ : ∃ f', f = f' + 1 := ⟨f - 1, by omega⟩
      simp only [f_X12_trayOf_l57, f_X12_trayOf_l57b, i12, gd_t, ii, m4, if_pos hkm, I_e0, Int32.zero_mul, Int32.add_zero]
  | succ d ih =>
    intro k hk
    obtain ⟨y, h1, h2⟩ := ih (k + 1) (by omega)
    obtain ⟨w, w1, w2, w3⟩ := m5 k (by omega)
    obtain ⟨q1, q2, q3⟩ := P.price w1
    have hkm : ¬ I m ≤ I k := by rw [I_le (by omega) (by omega)]; omega
    have kk : (I k).toNatClampNeg = k := I_nat (by omega)
    have k3 : inb (I k) 3 = true := inb_t (by omega) (by omega)
    have ww : (I w).toNatClampNeg = w := I_nat (by omega)
    have w5 : inb (I w) 5 = true := inb_t (by omega) (by omega)
    have w10 : inb (I w) 10 = true := inb_t (by omega) (by omega)
    have k36 : inb (I (3 * i + k)) 36 = true := inb_t (by omega) (by omega)
    have kk2 : (I (3 * i + k)).toNatClampNeg = 3 * i + k := I_nat (by omega)
    refine ⟨t.1 110 w + y, fun b f hf => ?_, fun v3 K b f hf => ?_⟩
    · obtain ⟨f', rfl⟩ : ∃ f', f = f' + 1 := ⟨f - 1, by omega⟩
      simp only [f_X4_priceFor_l4, f_X4_priceFor_l4b, bS_f, tS_f, i6, gd_t, ii, m3, if_neg hkm, k3, kk, w2, w5, ww, q1, ltb_t, I_succ]
      rw [h1 _ f' (by omega), Int32.add_assoc]
    · obtain ⟨f', rfl⟩ : ∃ f', f = f' + 1 := ⟨f - 1, by omega⟩
      simp only [f_X12_trayOf_l57, f_X12_trayOf_l57b, i12, gd_t, ii, m4, if_neg hkm, I_3, k36, kk2, w3, w10, ww, ltb_t, I_succ]
      rw [h2 v3 K _ f' (by omega), ← I_succ d]
      congr 1
      grind
theorem r_tray (P : PL p 0 c h n s t) (hp : s.2.2.1 = p) (v1 v2 : Int32) : ∃ x, f_X11_trayPence v1 v2 s = some x ∧ f_X12_trayOf v1 v2 t = some x := by
  have hn := P.n6
  have key : ∀ e k, k + e = n → ∀ a b : Int32, ∃ x, (∀ f, e < f → f_X11_trayPence_l8 v2 s f a b (I k) = some x) ∧ (∀ f, e < f → f_X12_trayOf_l8 v2 t f a b (I k) = some x) := by
    intro e
    induction e with
    | zero =>
      intro k hk a b
      have hk : k = n := by omega
      subst hk
      refine ⟨b, fun f hf => ?_, fun f hf => ?_⟩
      · obtain ⟨f', rfl⟩ : ∃ f', f = f' + 1 := ⟨f - 1, by omega⟩
        simp only [f_X11_trayPence_l8, f_X11_trayPence_l8b, hp, P.1, gd_t, P.nc, if_pos (Int32.le_refl _)]
      · obtain ⟨f', rfl⟩ : ∃ f', f = f' + 1 := ⟨f - 1, by omega⟩
        simp only [f_X12_trayOf_l8, f_X12_trayOf_l8b, P.nm, if_pos (Int32.le_refl _)]
    | succ e ih =>
      intro k hk a b
      have hkn : k < n := by omega
      have hk2 : ¬ I n ≤ I k := by rw [I_le (by omega) (by omega)]; omega
      have kk : (I k).toNatClampNeg = k := I_nat (by omega)
      have k6 : inb (I k) 6 = true := inb_t (by omega) (by omega)
      have k12 : inb (I k) 12 = true := inb_t (by omega) (by omega)
      obtain ⟨m, m1, m2, m3, m4, m5, -, -⟩ := P.want hkn
      have hd : EqB (s.1 (bS p k) 4) (t.1 116 k) 0 99 := by have := (P.bb hkn).2.2.2.1; simpa using this
      obtain ⟨d1, -, -⟩ := hd
      by_cases z : t.1 116 k < v2
      · obtain ⟨x, x1, x2⟩ := ih (k + 1) (by omega) a b
        refine ⟨x, fun f hf => ?_, fun f hf => ?_⟩
        · obtain ⟨f', rfl⟩ : ∃ f', f = f' + 1 := ⟨f - 1, by omega⟩
          simp only [f_X11_trayPence_l8, f_X11_trayPence_l8b, hp, P.1, gd_t, P.nc, if_neg hk2, k6, kk, bS_f, ltb_t, d1, if_pos z, I_succ, x1 f' (by omega)]
        · obtain ⟨f', rfl⟩ : ∃ f', f = f' + 1 := ⟨f - 1, by omega⟩
          simp only [f_X12_trayOf_l8, f_X12_trayOf_l8b, P.nm, if_neg hk2, k12, gd_t, kk, if_pos z, ltb_t, I_succ, x2 f' (by omega)]
      by_cases y : a < I m
      · have y' : ¬ I m ≤ a := Int32.not_le.mpr y
        obtain ⟨x, x1, x2⟩ := ih (k + 1) (by omega) a b
        refine ⟨x, fun f hf => ?_, fun f hf => ?_⟩
        · obtain ⟨f', rfl⟩ : ∃ f', f = f' + 1 := ⟨f - 1, by omega⟩
          simp only [f_X11_trayPence_l8, f_X11_trayPence_l8b, hp, P.1, gd_t, P.nc, if_neg hk2, k6, kk, bS_f, ltb_t, d1, if_neg z, m3, if_pos y, I_succ, x1 f' (by omega)]
        · obtain ⟨f', rfl⟩ : ∃ f', f = f' + 1 := ⟨f - 1, by omega⟩
          simp only [f_X12_trayOf_l8, f_X12_trayOf_l8b, P.nm, if_neg hk2, k12, gd_t, kk, if_neg z, m4, if_neg y', ltb_t, I_succ, x2 f' (by omega)]
      · have y' : I m ≤ a := Int32.not_lt.mp y
        obtain ⟨q, q1, q2⟩ := r_tray_l P v2 hkn m2 m3 m4 m5 m 0 (by omega)
        have q1' : f_X4_priceFor p (I k) s = some q := by
          unfold f_X4_priceFor
          rw [I0, q1 (I 0) FU (FU_lt (by omega)), I0_add]
        obtain ⟨x, x1, x2⟩ := ih (k + 1) (by omega) (a - I m) (b + (q + I m * v2))
        refine ⟨x, fun f hf => ?_, fun f hf => ?_⟩
        · obtain ⟨f', rfl⟩ : ∃ f', f = f' + 1 := ⟨f - 1, by omega⟩
          simp only [f_X11_trayPence_l8, f_X11_trayPence_l8b, hp, P.1, gd_t, P.nc, if_neg hk2, k6, kk, bS_f, ltb_t, d1, if_neg z, m3, if_neg y, q1', bnd_t, I_succ, x1 f' (by omega)]
        · obtain ⟨f', rfl⟩ : ∃ f', f = f' + 1 := ⟨f - 1, by omega⟩
          have e0 : ∀ K, f_X12_trayOf_l57 v2 (a - I m) (I k) K t FU b 0 = K (b + (q + I m * v2)) := fun K => by
            rw [I0]; exact q2 (a - I m) K b FU (FU_lt (by omega))
          simp only [f_X12_trayOf_l8, f_X12_trayOf_l8b, P.nm, if_neg hk2, k12, gd_t, kk, if_neg z, m4, if_pos y', ltb_t, e0, I_succ, x2 f' (by omega)]
  obtain ⟨x, x1, x2⟩ := key n 0 (by omega) v1 0
  refine ⟨x, ?_, ?_⟩
  · unfold f_X11_trayPence
    have := x1 FU (FU_lt (by omega))
    rw [← I0] at this; exact this
  · unfold f_X12_trayOf
    have := x2 FU (FU_lt (by omega))
    rw [← I0] at this; exact this
theorem st_tray (R : Rel p d c h n s t) (v w : Int32) : ∃ x t', f_X11_tray v w s = some x ∧ f_X12_tray v w t = some (x, t') ∧ Rel p d c h n s t' := by
  unfold f_X11_tray f_X12_tray
  rw [ltb_t, show (36 : Int32) = I 36 from litI 36, show (99 : Int32) = I 99 from litI 99]
  rcases r36 v 36 (by omega) (sI t 101 0 0) with ⟨k, k1, -, k2, k3, -, k4⟩ | ⟨k2, k4⟩
  · rw [if_neg k2, if_neg k3, k4, if_neg one_ne]
    rcases r36 w 99 (by omega) (sI t 101 0 0) with ⟨j, j1, -, j2, -, j3, j4⟩ | ⟨j2, j4⟩
    · obtain ⟨x, x1, x2⟩ := r_tray R.t0.2.1 R.1.1 v w
      rw [if_neg j2, if_pos j3, j4, if_neg one_ne, x1, bnd_t, x2, bnd_t]
      exact ⟨_, _, rfl, rfl, R.t0⟩
    · rw [j4, if_pos (Eq.refl _)]
      rcases j2 with j2 | ⟨j2, -, j3⟩
      · rw [if_pos j2]; exact ⟨_, _, rfl, rfl, R.t0⟩
      · rw [if_neg j2, if_neg j3]; exact ⟨_, _, rfl, rfl, R.t0⟩
  · rw [k4, if_pos (Eq.refl _)]
    rcases k2 with k2 | ⟨k2, k3, -⟩
    · rw [if_pos k2]; exact ⟨_, _, rfl, rfl, R.t0⟩
    · rw [if_neg k2, if_pos k3]; exact ⟨_, _, rfl, rfl, R.t0⟩
theorem st_price (R : Rel p d c h n s t) (v : Int32) : ∃ x t', f_X11_price v s = some x ∧ f_X12_price v t = some (x, t') ∧ Rel p d c h n s t' := by
  have P := R.t0.2.1
  unfold f_X11_price f_X12_price
  rw [ltb_t, show (36 : Int32) = I 36 from litI 36]
  rcases r36 v 36 (by omega) (sI t 101 0 0) with ⟨k, k1, -, k2, -, k3, k4⟩ | ⟨k2, k4⟩
  · rw [if_neg k2, if_pos k3, k4, if_neg one_ne]
    have key : ∀ e k, k + e = 100 → ∀ a b : Int32, ∃ x, (∀ f, e < f → f_X11_price_l19 v s f a b (I k) = some x) ∧ (∀ f, e < f → f_X12_price_l24 v f a b (I k) (sI t 101 0 0) = some (x, sI t 101 0 0)) := by
      intro e
      induction e with
      | zero =>
        intro k hk a b
        have hk : k = 100 := by omega
        subst hk
        refine ⟨a, fun f hf => ?_, fun f hf => ?_⟩
        · obtain ⟨f', rfl⟩ : ∃ f', f = f' + 1 := ⟨f - 1, by omega⟩
          simp only [f_X11_price_l19, f_X11_price_l19b]
          exact if_pos (by decide)
        · obtain ⟨f', rfl⟩ : ∃ f', f = f' + 1 := ⟨f - 1, by omega⟩
          simp only [f_X12_price_l24, f_X12_price_l24b]
          exact if_pos (by decide)
      | succ e ih =>
        intro k hk a b
        have h99 : ¬ (99 : Int32) < I k := by rw [show (99 : Int32) = I 99 from litI 99, I_lt (by omega) (by omega)]; omega
        have h100 : ¬ (100 : Int32) ≤ I k := by rw [show (100 : Int32) = I 100 from litI 100, I_le (by omega) (by omega)]; omega
        obtain ⟨y, y1, y2⟩ := r_tray P R.1.1 v (I k)
        by_cases z : y ≤ b
        · have z' : ¬ b < y := Int32.not_lt.mpr z
          obtain ⟨x, x1, x2⟩ := ih (k + 1) (by omega) a b
          refine ⟨x, fun f hf => ?_, fun f hf => ?_⟩
          · obtain ⟨f', rfl⟩ : ∃ f', f = f' + 1 := ⟨f - 1, by omega⟩
            simp only [f_X11_price_l19, f_X11_price_l19b, if_neg h99, y1, bnd_t, if_pos z, ltb_t, I_succ, x1 f' (by omega)]
          · obtain ⟨f', rfl⟩ : ∃ f', f = f' + 1 := ⟨f - 1, by omega⟩
            simp only [f_X12_price_l24, f_X12_price_l24b, if_neg h100, y2, bnd_t, if_neg z', ltb_t, I_succ, x2 f' (by omega)]
        · have z' : b < y := Int32.not_le.mp z
          obtain ⟨x, x1, x2⟩ := ih (k + 1) (by omega) (I k) y
          refine ⟨x, fun f hf => ?_, fun f hf => ?_⟩
          · obtain ⟨f', rfl⟩ : ∃ f', f = f' + 1 := ⟨f - 1, by omega⟩
            simp only [f_X11_price_l19, f_X11_price_l19b, if_neg h99, y1, bnd_t, if_neg z, ltb_t, I_succ, x1 f' (by omega)]
          · obtain ⟨f', rfl⟩ : ∃ f', f = f' + 1 := ⟨f - 1, by omega⟩
            simp only [f_X12_price_l24, f_X12_price_l24b, if_neg h100, y2, bnd_t, if_pos z', ltb_t, I_succ, x2 f' (by omega)]
    obtain ⟨x, x1, x2⟩ := key 100 0 (by omega) 0 (-1)
    have x1 := x1 FU (FU_lt (by omega))
    have x2 := x2 FU (FU_lt (by omega))
    rw [← I0] at x1 x2
    exact ⟨x, _, x1, x2, R.t0⟩
  · rw [k4, if_pos (Eq.refl _)]
    rcases k2 with k2 | ⟨k2, -, k3⟩
    · rw [if_pos k2]; exact ⟨_, _, rfl, rfl, R.t0⟩
    · rw [if_neg k2, if_neg k3]; exact ⟨_, _, rfl, rfl, R.t0⟩
/-- whether a + b * cold is so of all that was sold -/
theorem r_isLaw (R : Rel p d c h n s t) (a b : Int32) : ∃ x : Int32, (x = 0 ∨ x = 1) ∧ f_X7_isLaw 64 a b s = some x ∧ f_X12_isLaw a b t = some x := by
  obtain ⟨m, m1, m2, m3, m4⟩ := R.2.2.2.2.2.2.2.1.2.1
  have key : ∀ e k, k + e = m → ∃ x : Int32, (x = 0 ∨ x = 1) ∧ (∀ f, e < f → f_X7_isLaw_l2 64 a b s f (I k) = some x) ∧ (∀ f, e < f → f_X12_isLaw_l2 a b t f (I k) = some x) := by
    intro e
    induction e with
    | zero =>
      intro k hk
      have hk : k = m := by omega
      subst hk
      refine ⟨1, Or.inr rfl, fun f hf => ?_, fun f hf => ?_⟩
      · obtain ⟨f', rfl⟩ : ∃ f', f = f' + 1 := ⟨f - 1, by omega⟩
        simp only [f_X7_isLaw_l2, f_X7_isLaw_l2b, m2, if_pos (Int32.le_refl _)]
      · obtain ⟨f', rfl⟩ : ∃ f', f = f' + 1 := ⟨f - 1, by omega⟩
        simp only [f_X12_isLaw_l2, f_X12_isLaw_l2b, m3, if_pos (Int32.le_refl _)]
    | succ e ih =>
      intro k hk
      have hk2 : ¬ I m ≤ I k := by rw [I_le (by omega) (by omega)]; omega
      have kk : (I k).toNatClampNeg = k := I_nat (by omega)
      have k50 : inb (I k) 50 = true := inb_t (by omega) (by omega)
      have k20 : inb (I (2 * k)) 20 = true := inb_t (by omega) (by omega)
      have k20' : inb (I (2 * k + 1)) 20 = true := inb_t (by omega) (by omega)
      have kk2 : (I (2 * k)).toNatClampNeg = 2 * k := I_nat (by omega)
      have kk3 : (I (2 * k + 1)).toNatClampNeg = 2 * k + 1 := I_nat (by omega)
      have r67 : Rf 64 7 = 67 := by decide
      obtain ⟨n1, n2⟩ := m4 k (by omega)
      simp only [Nat.mul_zero, Nat.zero_add] at n1 n2
      have n1' : s.1 67 (2 * k) = t.1 140 k := n1
      have n2' : s.1 67 (2 * k + 1) = t.1 141 k := n2
      by_cases z : a + b * t.1 140 k = t.1 141 k
      · obtain ⟨x, x0, x1, x2⟩ := ih (k + 1) (by omega)
        refine ⟨x, x0, fun f hf => ?_, fun f hf => ?_⟩
        · obtain ⟨f', rfl⟩ : ∃ f', f = f' + 1 := ⟨f - 1, by omega⟩
          simp only [f_X7_isLaw_l2, f_X7_isLaw_l2b, m2, if_neg hk2, I_2, k20, gd_t, I_succ, k20', kk2, kk3, r67, n1', n2', if_pos z, ltb_t, x1 f' (by omega)]
        · obtain ⟨f', rfl⟩ : ∃ f', f = f' + 1 := ⟨f - 1, by omega⟩
          simp only [f_X12_isLaw_l2, f_X12_isLaw_l2b, m3, if_neg hk2, k50, gd_t, kk, if_pos z, ltb_t, I_succ, x2 f' (by omega)]
      · refine ⟨0, Or.inl rfl, fun f hf => ?_, fun f hf => ?_⟩
        · obtain ⟨f', rfl⟩ : ∃ f', f = f' + 1 := ⟨f - 1, by omega⟩
          simp only [f_X7_isLaw_l2, f_X7_isLaw_l2b, m2, if_neg hk2, I_2, k20, gd_t, I_succ, k20', kk2, kk3, r67, n1', n2', if_neg z]
        · obtain ⟨f', rfl⟩ : ∃ f', f = f' + 1 := ⟨f - 1, by omega⟩
          simp only [f_X12_isLaw_l2, f_X12_isLaw_l2b, m3, if_neg hk2, k50, gd_t, kk, if_neg z]
  obtain ⟨x, x0, x1, x2⟩ := key m 0 (by omega)
  refine ⟨x, x0, ?_, ?_⟩
  · unfold f_X7_isLaw
    have := x1 FU (FU_lt (by omega))
    rw [← I0] at this; exact this
  · unfold f_X12_isLaw
    have := x2 FU (FU_lt (by omega))
    rw [← I0] at this; exact this
/-- said last, said first -/
def LWr (cnt : Nat) (said same first alike : Int32) : Prop := same = alike ∧ (same = 0 ∨ same = 1) ∧ (cnt = 0 → said = -2 ∧ same = 1) ∧ (same = 1 → 0 < cnt → said = first)
theorem st_laws (R : Rel p d c h n s t) (v : Int32) : ∃ x t', f_X11_laws v s = some x ∧ f_X12_laws v t = some (x, t') ∧ Rel p d c h n s t' := by
  have R0 := R.t0
  unfold f_X11_laws f_X12_laws
  rw [ltb_t]
  have m1 : (-1 : Int32).toInt = -1 := by decide
  have m9 : (9 : Int32).toInt = 9 := by decide
  by_cases z : v < -1
  · rw [if_pos z, within_0 (by rw [Int32.lt_iff_toInt_lt] at z; omega), if_pos (Eq.refl _)]
    exact ⟨_, _, rfl, rfl, R0⟩
  by_cases z2 : v ≤ 9
  case neg =>
    rw [if_neg z, if_neg z2, within_0 (by rw [Int32.le_iff_toInt_le] at z2; omega), if_pos (Eq.refl _)]
    exact ⟨_, _, rfl, rfl, R0⟩
  rw [if_neg z, if_pos z2, within_1 (by rw [Int32.lt_iff_toInt_lt] at z; rw [Int32.le_iff_toInt_le] at z2; omega), if_neg one_ne]
  have inner : ∀ a : Int32, ∀ e k, k + e = 10 → ∀ cnt said same first alike, cnt + e ≤ 200 → LWr cnt said same first alike → ∃ cnt' said' same' first' alike', LWr cnt' said' same' first' alike' ∧ cnt' ≤ cnt + e ∧ (∀ K f, e < f → f_X11_laws_l35 v a K s f (I cnt) said same (I k) = K (I cnt') said' same') ∧ (∀ K f, e < f → f_X12_laws_l38 v a K f (I cnt) first alike (I k) (sI t 101 0 0) = K (I cnt') first' alike' (sI t 101 0 0)) := by
    intro a e
    induction e with
    | zero =>
      intro k hk cnt said same first alike hc hl
      have hk : k = 10 := by omega
      subst hk
      refine ⟨cnt, said, same, first, alike, hl, by omega, fun K f hf => ?_, fun K f hf => ?_⟩
      · obtain ⟨f', rfl⟩ : ∃ f', f = f' + 1 := ⟨f - 1, by omega⟩
        simp only [f_X11_laws_l35, f_X11_laws_l35b]
        exact if_pos (by decide)
      · obtain ⟨f', rfl⟩ : ∃ f', f = f' + 1 := ⟨f - 1, by omega⟩
        simp only [f_X12_laws_l38, f_X12_laws_l38b]
        exact if_pos (by decide)
    | succ e ih =>
      intro k hk cnt said same first alike hc hl
      have h9 : ¬ (9 : Int32) < I k := by rw [show (9 : Int32) = I 9 from litI 9, I_lt (by omega) (by omega)]; omega
      have h10 : ¬ (10 : Int32) ≤ I k := by rw [show (10 : Int32) = I 10 from litI 10, I_le (by omega) (by omega)]; omega
      obtain ⟨x, x0, x1, x2⟩ := r_isLaw R0 a (I k)
      rcases x0 with rfl | rfl
      · obtain ⟨c', s', m', f', al', g1, g2, g3, g4⟩ := ih (k + 1) (by omega) cnt said same first alike (by omega) hl
        refine ⟨c', s', m', f', al', g1, by omega, fun K f hf => ?_, fun K f hf => ?_⟩
        · obtain ⟨f', rfl⟩ : ∃ f', f = f' + 1 := ⟨f - 1, by omega⟩
          simp only [f_X11_laws_l35, f_X11_laws_l35b, if_neg h9, x1, bnd_t, if_true, ltb_t, I_succ, g3 K f' (by omega)]
        · obtain ⟨f', rfl⟩ : ∃ f', f = f' + 1 := ⟨f - 1, by omega⟩
          simp only [f_X12_laws_l38, f_X12_laws_l38b, if_neg h10, x2, bnd_t, if_true, ltb_t, I_succ, g4 K f' (by omega)]
      · obtain ⟨l1, l2, l3, l4⟩ := hl
        subst l1
        have cn : I cnt = 0 ↔ cnt = 0 := by rw [I0, I_inj (by omega) (by omega)]
        -- what comes next
        obtain ⟨sm, sm1, sm2, sm3, sm4⟩ : ∃ sm : Int32, (sm = 0 ∨ sm = 1) ∧ (∀ K f, f_X11_laws_l35 v a K s (f + 1) (I cnt) said same (I k) = f_X11_laws_l35 v a K s f (I (cnt + 1)) (a + I k * v) sm (I (k + 1))) ∧ (∀ K f, f_X12_laws_l38 v a K (f + 1) (I cnt) first same (I k) (sI t 101 0 0) = f_X12_laws_l38 v a K f (I (cnt + 1)) (if cnt = 0 then a + I k * v else first) sm (I (k + 1)) (sI t 101 0 0)) ∧ (sm = 1 → a + I k * v = if cnt = 0 then a + I k * v else first) := by
          rcases l2 with rfl | rfl
          · have nc : cnt ≠ 0 := fun q => absurd (l3 q).2 (by decide)
            refine ⟨0, Or.inl rfl, fun K f => ?_, fun K f => ?_, fun q => absurd q (by decide)⟩
            · simp only [f_X11_laws_l35, f_X11_laws_l35b, if_neg h9, x1, bnd_t, if_neg one_ne, ltb_t, if_true, f_X11_laws_j84, f_X11_laws_j85, I_succ]
            · simp only [f_X12_laws_l38, f_X12_laws_l38b, if_neg h10, x2, bnd_t, if_neg one_ne, ltb_t, if_neg (fun q => nc (cn.mp q)), if_neg nc, f_X12_laws_j75, if_true, I_succ]
          · by_cases nc : cnt = 0
            · subst nc
              refine ⟨1, Or.inr rfl, fun K f => ?_, fun K f => ?_, fun _ => by rw [if_pos (Eq.refl _)]⟩
              · simp only [f_X11_laws_l35, f_X11_laws_l35b, if_neg h9, x1, bnd_t, if_neg one_ne, ltb_t, if_pos I_e0, f_X11_laws_j80, f_X11_laws_j85, I_succ]
              · simp only [f_X12_laws_l38, f_X12_laws_l38b, if_neg h10, x2, bnd_t, if_neg one_ne, ltb_t, if_pos I_e0, f_X12_laws_j75, if_true, I_succ]
            · have nc' : ¬ I cnt = 0 := fun q => nc (cn.mp q)
              have sf := l4 rfl (by omega)
              subst sf
              by_cases y : a + I k * v = said
              · refine ⟨1, Or.inr rfl, fun K f => ?_, fun K f => ?_, fun _ => by rw [if_neg nc]; exact y⟩
                · simp only [f_X11_laws_l35, f_X11_laws_l35b, if_neg h9, x1, bnd_t, if_neg one_ne, ltb_t, if_neg nc', if_pos y, f_X11_laws_j80, f_X11_laws_j85, I_succ]
                · simp only [f_X12_laws_l38, f_X12_laws_l38b, if_neg h10, x2, bnd_t, if_neg one_ne, ltb_t, if_neg nc', if_neg nc, f_X12_laws_j75, if_pos y, I_succ]
              · refine ⟨0, Or.inl rfl, fun K f => ?_, fun K f => ?_, fun q => absurd q (by decide)⟩
                · simp only [f_X11_laws_l35, f_X11_laws_l35b, if_neg h9, x1, bnd_t, if_neg one_ne, ltb_t, if_neg nc', if_neg y, f_X11_laws_j84, f_X11_laws_j85, I_succ]
                · simp only [f_X12_laws_l38, f_X12_laws_l38b, if_neg h10, x2, bnd_t, if_neg one_ne, ltb_t, if_neg nc', if_neg nc, f_X12_laws_j75, if_neg y, I_succ]
        obtain ⟨c', s', m', f', al', g1, g2, g3, g4⟩ := ih (k + 1) (by omega) (cnt + 1) (a + I k * v) sm (if cnt = 0 then a + I k * v else first) sm (by omega) ⟨rfl, sm1, fun q => by omega, fun q _ => sm4 q⟩
        refine ⟨c', s', m', f', al', g1, by omega, fun K f hf => ?_, fun K f hf => ?_⟩
        · obtain ⟨f', rfl⟩ : ∃ f', f = f' + 1 := ⟨f - 1, by omega⟩
          rw [sm2, g3 K f' (by omega)]
        · obtain ⟨f', rfl⟩ : ∃ f', f = f' + 1 := ⟨f - 1, by omega⟩
          rw [sm3, g4 K f' (by omega)]
  have outer : ∀ e k, k + e = 10 → ∀ cnt said same first alike, cnt + 10 * e ≤ 100 → LWr cnt said same first alike → ∃ cnt' said' same' first' alike', LWr cnt' said' same' first' alike' ∧ cnt' ≤ 100 ∧ (∀ K f, e < f → f_X11_laws_l25 v K s f (I cnt) said same (I k) = K (I cnt') said' same') ∧ (∀ K f, e < f → f_X12_laws_l28 v K f (I cnt) first alike (I k) (sI t 101 0 0) = K (I cnt') first' alike' (sI t 101 0 0)) := by
    intro e
    induction e with
    | zero =>
      intro k hk cnt said same first alike hc hl
      have hk : k = 10 := by omega
      subst hk
      refine ⟨cnt, said, same, first, alike, hl, by omega, fun K f hf => ?_, fun K f hf => ?_⟩
      · obtain ⟨f', rfl⟩ : ∃ f', f = f' + 1 := ⟨f - 1, by omega⟩
        simp only [f_X11_laws_l25, f_X11_laws_l25b]
        exact if_pos (by decide)
      · obtain ⟨f', rfl⟩ : ∃ f', f = f' + 1 := ⟨f - 1, by omega⟩
        simp only [f_X12_laws_l28, f_X12_laws_l28b]
        exact if_pos (by decide)
    | succ e ih =>
      intro k hk cnt said same first alike hc hl
      have h9 : ¬ (9 : Int32) < I k := by rw [show (9 : Int32) = I 9 from litI 9, I_lt (by omega) (by omega)]; omega
      have h10 : ¬ (10 : Int32) ≤ I k := by rw [show (10 : Int32) = I 10 from litI 10, I_le (by omega) (by omega)]; omega
      obtain ⟨c1, s1, m1', f1, al1, a1, a2, a3, a4⟩ := inner (I k) 10 0 (by omega) cnt said same first alike (by omega) hl
      obtain ⟨c', s', m', f', al', g1, g2, g3, g4⟩ := ih (k + 1) (by omega) c1 s1 m1' f1 al1 (by omega) a1
      refine ⟨c', s', m', f', al', g1, g2, fun K f hf => ?_, fun K f hf => ?_⟩
      · obtain ⟨f', rfl⟩ : ∃ f', f = f' + 1 := ⟨f - 1, by omega⟩
        simp only [f_X11_laws_l25, f_X11_laws_l25b, if_neg h9]
        have := a3 (fun v14 v15 v16 => ltb (I k + 1) fun x17 => f_X11_laws_l25 v K s f' v14 v15 v16 x17) FU (FU_lt (by omega))
        rw [← I0] at this
        rw [this, ltb_t, I_succ, g3 K f' (by omega)]
      · obtain ⟨f', rfl⟩ : ∃ f', f = f' + 1 := ⟨f - 1, by omega⟩
        simp only [f_X12_laws_l28, f_X12_laws_l28b, if_neg h10]
        have := a4 (fun v18 v19 v20 s21 => ltb (I k + 1) fun x22 => f_X12_laws_l28 v K f' v18 v19 v20 x22 s21) FU (FU_lt (by omega))
        rw [← I0] at this
        rw [this, ltb_t, I_succ, g4 K f' (by omega)]
  obtain ⟨c', s', m', f', al', ⟨l1, l2, l3, l4⟩, g2, g3, g4⟩ := outer 10 0 (by omega) 0 (-2) 1 0 1 (by omega) ⟨rfl, Or.inr rfl, fun _ => ⟨rfl, rfl⟩, fun _ q => by omega⟩
  have g3 := g3 (fun v18 v19 v20 => (if v = (-1) then some v18 else (if v20 = 0 then some (-2) else some v19))) FU (FU_lt (by omega))
  have g4 := g4 (fun v23 v24 v25 s26 => (if v = (-1) then some (v23, s26) else (if v23 = 0 then some ((-2), s26) else (if v25 = 0 then some ((-2), s26) else some (v24, s26))))) FU (FU_lt (by omega))
  rw [← I0] at g3 g4
  rw [g3, g4]
  have cn : I c' = 0 ↔ c' = 0 := by rw [I0, I_inj (by omega) (by omega)]
  subst l1
  by_cases y : v = -1
  · rw [if_pos y, if_pos y]; exact ⟨_, _, rfl, rfl, R0⟩
  rw [if_neg y, if_neg y]
  rcases l2 with rfl | rfl
  · have nc : ¬ I c' = 0 := fun q => absurd (l3 (cn.mp q)).2 (by decide)
    rw [if_pos (Eq.refl _), if_neg nc, if_pos (Eq.refl _)]; exact ⟨_, _, rfl, rfl, R0⟩
  · rw [if_neg one_ne]
    by_cases nc : c' = 0
    · rw [if_pos (cn.mpr nc), (l3 nc).1]; exact ⟨_, _, rfl, rfl, R0⟩
    · rw [if_neg (fun q => nc (cn.mp q)), if_neg one_ne, l4 rfl (by omega)]; exact ⟨_, _, rfl, rfl, R0⟩
end READS
