/-! Two loops over choices, one over some of the BUYERS, the other over all; chance -/
theorem lock {σ τ : Type} (C D : Nat) (sub mt : Nat → Prop) (φ : Nat → Nat) (G : Nat → σ → Nat → τ → Prop) (Q : Nat → σ → τ → Prop)
    (h1 : ∀ c, c < C → sub c → φ c < D ∧ mt (φ c)) (h2 : ∀ X, X < D → mt X → ∃ c, c < C ∧ sub c ∧ φ c = X) (h3 : ∀ c c', c < C → c' < C → sub c → sub c' → (c ≤ c' ↔ φ c ≤ φ c'))
    (ha : ∀ c x X y, c < C → ¬ sub c → Q c x y → G (c + 1) x X y → G c x X y) (hq : ∀ c x y, c < C → ¬ sub c → Q c x y → Q (c + 1) x y) (hb : ∀ c x X y, X < D → ¬ mt X → Q c x y → G c x (X + 1) y → G c x X y)
    (hc : ∀ c x y, c < C → sub c → Q c x y → (∀ x' y', Q (c + 1) x' y' → G (c + 1) x' (φ c + 1) y') → G c x (φ c) y) (hd : ∀ x y, Q C x y → G C x D y) :
    ∀ N c x X y, (C - c) + (D - X) ≤ N → c ≤ C → X ≤ D → (∀ c', c' < C → sub c' → (c ≤ c' ↔ X ≤ φ c')) → Q c x y → G c x X y := by
  intro N
  induction N with
  | zero =>
    intro c x X y hN hC hX hr hQ
    have e1 : c = C := by omega
    have e2 : X = D := by omega
    subst e1; subst e2
    exact hd x y hQ
  | succ N ih =>
    intro c x X y hN hC hX hr hQ
    by_cases zc : c < C ∧ ¬ sub c
    · refine ha c x X y zc.1 zc.2 hQ (ih (c + 1) x X y (by omega) (by omega) hX (fun c' h4 h5 => ?_) (hq c x y zc.1 zc.2 hQ))
      rw [← hr c' h4 h5]
      have : c ≠ c' := fun e => zc.2 (e ▸ h5)
      omega
    by_cases zX : X < D ∧ ¬ mt X
    · refine hb c x X y zX.1 zX.2 hQ (ih c x (X + 1) y (by omega) hC (by omega) (fun c' h4 h5 => ?_) hQ)
      rw [hr c' h4 h5]
      have : X ≠ φ c' := fun e => zX.2 (e ▸ (h1 c' h4 h5).2)
      omega
    by_cases z : c < C
    · have sc : sub c := Classical.byContradiction fun q => zc ⟨z, q⟩
      have le : X ≤ φ c := (hr c z sc).mp (Nat.le_refl _)
      have lt := (h1 c z sc).1
      have mX : mt X := Classical.byContradiction fun q => zX ⟨by omega, q⟩
      obtain ⟨c2, h4, h5, h6⟩ := h2 X (by omega) mX
      have : c ≤ c2 := (hr c2 h4 h5).mpr (by omega)
      have : φ c ≤ φ c2 := (h3 c c2 z h4 sc h5).mp this
      have e : X = φ c := by omega
      subst e
      refine hc c x y z sc hQ (fun x' y' hQ' => ih (c + 1) x' (φ c + 1) y' (by omega) (by omega) (by omega) (fun c' h7 h8 => ?_) hQ')
      have m1 := h3 c c' z h7 sc h8
      have m2 := h3 c' c h7 z h8 sc
      constructor
      · intro q
        have : ¬ c' ≤ c := by omega
        rw [m2] at this
        omega
      · intro q
        have : ¬ φ c' ≤ φ c := by omega
        rw [← m2] at this
        omega
    · have e1 : c = C := by omega
      have e2 : X = D := by
        refine Classical.byContradiction fun q => ?_
        have mX : mt X := Classical.byContradiction fun q2 => zX ⟨by omega, q2⟩
        obtain ⟨c2, h4, h5, h6⟩ := h2 X (by omega) mX
        have : c ≤ c2 := (hr c2 h4 h5).mpr (by omega)
        omega
      subst e1; subst e2
      exact hd x y hQ
def nsum (f : Nat → Nat) : Nat → Nat
  | 0 => 0
  | m + 1 => nsum f m + f m
theorem nsum_congr {f g : Nat → Nat} : ∀ {n : Nat}, (∀ k, k < n → f k = g k) → nsum f n = nsum g n := by
  intro n
  induction n with
  | zero => intro _; rfl
  | succ n ih => intro h; show nsum f n + f n = nsum g n + g n; rw [ih (fun k hk => h k (by omega)), h n (by omega)]
theorem nsum_mul {f : Nat → Nat} {a : Nat} : ∀ {n : Nat}, nsum (fun k => f k * a) n = nsum f n * a := by
  intro n
  induction n with
  | zero => show 0 = 0 * a; omega
  | succ n ih => show nsum _ n + f n * a = (nsum f n + f n) * a; rw [ih, Nat.add_mul]
theorem nsum_split {f : Nat → Nat} {m : Nat} : ∀ {n : Nat}, nsum f (m + n) = nsum f m + nsum (fun k => f (m + k)) n := by
  intro n
  induction n with
  | zero => rfl
  | succ n ih => show nsum f (m + n) + f (m + n) = nsum f m + (nsum _ n + f (m + n)); rw [ih]; omega
/-- the weight of a choice -/
def wp (od : Nat → Nat) (b X : Nat) : Nat → Nat
  | 0 => 1
  | k + 1 => wp od b X k * (if k = b then 1 else if X.testBit k then od k else 10 - od k)
def up (od : Nat → Nat) (b X : Nat) : Nat → Nat
  | 0 => 1
  | k + 1 => up od b X k * (if k = b then (if X.testBit k then 0 else 1) else if X.testBit k then od k else 10 - od k)
def bp (b : Nat) : Nat → Nat
  | 0 => 1
  | k + 1 => bp b k * (if k = b then 1 else 10)
theorem wp_s (od : Nat → Nat) (b X k : Nat) : wp od b X (k + 1) = wp od b X k * (if k = b then 1 else if X.testBit k then od k else 10 - od k) := rfl
theorem up_s (od : Nat → Nat) (b X k : Nat) : up od b X (k + 1) = up od b X k * (if k = b then (if X.testBit k then 0 else 1) else if X.testBit k then od k else 10 - od k) := rfl
theorem bp_s (b k : Nat) : bp b (k + 1) = bp b k * (if k = b then 1 else 10) := rfl
theorem up_congr {od : Nat → Nat} {b X Y : Nat} : ∀ {k : Nat}, (∀ i, i < k → X.testBit i = Y.testBit i) → up od b X k = up od b Y k := by
  intro k
  induction k with
  | zero => intro _; rfl
  | succ k ih => intro h; unfold up; rw [ih (fun i hi => h i (by omega)), h k (by omega)]
theorem wp_congr {od : Nat → Nat} {b X Y : Nat} : ∀ {k : Nat}, (∀ i, i < k → i ≠ b → X.testBit i = Y.testBit i) → wp od b X k = wp od b Y k := by
  intro k
  induction k with
  | zero => intro _; rfl
  | succ k ih =>
    intro h; unfold wp
    rw [ih (fun i hi => h i (by omega))]
    by_cases z : k = b
    · rw [if_pos z, if_pos z]
    · rw [if_neg z, if_neg z, h k (by omega) z]
theorem up_wp {od : Nat → Nat} {b X : Nat} : ∀ {k : Nat}, b < k → up od b X k = if X.testBit b then 0 else wp od b X k := by
  have lo : ∀ k, k ≤ b → up od b X k = wp od b X k := by
    intro k
    induction k with
    | zero => intro _; rfl
    | succ k ih =>
      intro h
      have hk : ¬ k = b := by omega
      rw [up_s, wp_s, ih (by omega), if_neg hk, if_neg hk]
  intro k
  induction k with
  | zero => intro h; omega
  | succ k ih =>
    intro h
    unfold up wp
    by_cases z : k = b
    · subst z
      rw [lo k (Nat.le_refl _), if_pos (Eq.refl _), if_pos (Eq.refl _)]
      cases X.testBit k <;> simp
    · rw [ih (by omega), if_neg z, if_neg z]
      cases X.testBit b <;> simp
theorem up_sum {od : Nat → Nat} {b : Nat} (ho : ∀ i, od i ≤ 10) : ∀ k, nsum (fun X => up od b X k) (2 ^ k) = bp b k := by
  intro k
  induction k with
  | zero => rfl
  | succ k ih =>
    have e : 2 ^ (k + 1) = 2 ^ k + 2 ^ k := by rw [Nat.pow_succ]; omega
    rw [e, nsum_split]
    have a1 : nsum (fun X => up od b X (k + 1)) (2 ^ k) = nsum (fun X => up od b X k) (2 ^ k) * (if k = b then 1 else 10 - od k) := by
      rw [← nsum_mul]
      refine nsum_congr (fun X hX => ?_)
      show up od b X k * _ = _
      rw [Nat.testBit_lt_two_pow hX]; rfl
    have a2 : nsum (fun X => up od b (2 ^ k + X) (k + 1)) (2 ^ k) = nsum (fun X => up od b X k) (2 ^ k) * (if k = b then 0 else od k) := by
      rw [← nsum_mul]
      refine nsum_congr (fun X hX => ?_)
      show up od b (2 ^ k + X) k * _ = _
      rw [up_congr (Y := X) (fun i hi => Nat.testBit_two_pow_add_gt hi X), Nat.testBit_two_pow_add_eq, Nat.testBit_lt_two_pow hX]; rfl
    rw [a1, a2, ih]
    show _ = bp b k * _
    have := ho k
    by_cases z : k = b
    · rw [if_pos z, if_pos z, if_pos z]; omega
    · rw [if_neg z, if_neg z, if_neg z, ← Nat.mul_add]; congr 1; omega
theorem bp_b {b : Nat} : ∀ k, 1 ≤ bp b k ∧ bp b k ≤ 10 ^ k := by
  intro k
  induction k with
  | zero => exact ⟨Nat.le_refl _, Nat.le_refl _⟩
  | succ k ih =>
    show 1 ≤ bp b k * _ ∧ bp b k * _ ≤ 10 ^ (k + 1)
    rw [Nat.pow_succ]
    split <;> omega
theorem wp_b {od : Nat → Nat} {b X : Nat} (ho : ∀ i, od i ≤ 10) : ∀ k, wp od b X k ≤ 10 ^ k := by
  intro k
  induction k with
  | zero => exact Nat.le_refl _
  | succ k ih =>
    show wp od b X k * _ ≤ 10 ^ (k + 1)
    rw [Nat.pow_succ]
    refine Nat.mul_le_mul ih ?_
    have := ho k
    split
    · omega
    · split <;> omega
theorem and_b : ∀ o, o < 64 → ∀ b, b < 6 → (I o &&& I (2 ^ b) = 0 ↔ o.testBit b = false) := by decide +kernel
theorem or_b : ∀ o, o < 64 → ∀ b, b < 6 → o.testBit b = false → o ||| 2 ^ b = o + 2 ^ b ∧ (o + 2 ^ b).testBit b = true ∧ I o ||| I (2 ^ b) = I (o + 2 ^ b) := by decide +kernel
theorem un_b : ∀ X, X < 64 → ∀ b, b < 6 → X.testBit b = true → 2 ^ b ≤ X ∧ (X - 2 ^ b).testBit b = false := by decide +kernel
theorem or_bi : ∀ o, o < 64 → ∀ b, b < 6 → ∀ i, i < 6 → i ≠ b → o.testBit b = false → (o + 2 ^ b).testBit i = o.testBit i := by decide +kernel
theorem pop_sub : ∀ B, B < 32 → ∀ x, x < 32 → x &&& B = x → bc (I x) = bc (I B) → x = B := by decide +kernel
theorem pop_add : ∀ b, b < 32 → ∀ q, q < 5 → b.testBit q = false → bc (I (b ||| 2 ^ q)) = bc (I b) + 1 := by decide +kernel
section CHANCE
variable {p d c h n : Nat} {s t : HS}
/-- all he wants is drunk -/
theorem r_hasAll (P : PL p 0 c h n s t) (R : RS n s t) {b : Nat} (hb : b < n) : (s.1 78 b = s.1 (bS p b) 7 ↔ bc (t.1 152 b) = t.1 118 b) ∧ (s.1 73 15 &&& I (2 ^ b) = 0 ↔ t.1 154 b = 0) := by
  have hn := P.n6
  obtain ⟨m, m1, m2, m3, m4, m5, m6, m7⟩ := P.want hb
  obtain ⟨⟨e1, -, -⟩, -, e3, -, x, x1, x2, x3⟩ := R.2.1 b hb
  have gen : ∀ j, j ≤ m → ∃ B, B < 32 ∧ wbits (fun k => t.1 117 (3 * b + k)) j = I B ∧ bc (I B) = I j ∧ ∀ q, q < 6 → (B.testBit q = true ↔ ∃ k, k < j ∧ t.1 117 (3 * b + k) = I q) := by
    intro j
    induction j with
    | zero => intro _; exact ⟨0, by omega, rfl, by decide +kernel, fun q _ => by simp⟩
    | succ j ih =>
      intro hj
      obtain ⟨B, B1, B2, B3, B4⟩ := ih (by omega)
      obtain ⟨w, w1, -, w3⟩ := m5 j (by omega)
      have nb : B.testBit w = false := by
        rw [Bool.eq_false_iff]
        intro q
        obtain ⟨k, k1, k2⟩ := (B4 w (by omega)).mp q
        have := m6 k (by omega) j (by omega) (k2.trans w3.symm)
        omega
      refine ⟨B ||| 2 ^ w, Nat.or_lt_two_pow (n := 5) (by omega) (Nat.pow_lt_pow_right (by omega) (by omega)), ?_, ?_, fun q hq => ?_⟩
      · show wbits _ j ||| ((1 : Int32) <<< (t.1 117 (3 * b + j) &&& 31)) = _
        rw [B2, w3, orb B (by omega) w (by omega)]
      · rw [pop_add B B1 w (by omega) nb, B3, I_succ]
      · rw [Nat.testBit_or, Bool.or_eq_true, B4 q hq, Nat.testBit_two_pow]
        constructor
        · rintro (⟨k, k1, k2⟩ | e)
          · exact ⟨k, by omega, k2⟩
          · have : w = q := by simpa using e
            subst this
            exact ⟨j, by omega, w3⟩
        · rintro ⟨k, k1, k2⟩
          by_cases z : k = j
          · subst z
            rw [w3] at k2
            have := (I_inj (by omega) (by omega)).mp k2
            exact Or.inr (by simpa using this)
          · exact Or.inl ⟨k, by omega, k2⟩
  obtain ⟨B, B1, B2, B3, B4⟩ := gen m (Nat.le_refl _)
  constructor
  · rw [e1, m7, B2, m4, x2]
    constructor
    · intro q
      rw [q, B3]
    · intro q
      rw [← B3] at q
      have : x = B := by
        refine pop_sub B B1 x x1 ?_ q
        refine Nat.eq_of_testBit_eq (fun i => ?_)
        rw [Nat.testBit_and]
        by_cases z : x.testBit i = true
        · by_cases hi : i < 6
          · obtain ⟨m', k, k1, k2, k3, k4⟩ := x3 i hi z
            rw [m4] at k2
            have := (I_inj (by omega) (by omega)).mp k2
            have := (B4 i hi).mpr ⟨k, by omega, k4⟩
            rw [z, this]; rfl
          · have : x < 2 ^ i := Nat.lt_of_lt_of_le x1 (Nat.le_trans (by decide : 32 ≤ 2 ^ 6) (Nat.pow_le_pow_right (by omega) (by omega)))
            rw [Nat.testBit_lt_two_pow this] at z
            cases z
        · rw [Bool.eq_false_iff.mpr z]; rfl
      rw [this]
  · obtain ⟨k, k1, k2⟩ := R.2.2
    have k64 : k < 64 := Nat.lt_of_lt_of_le k1 (Nat.pow_le_pow_right (by omega) hn.2.2 : 2 ^ n ≤ 2 ^ 6)
    rw [k2] at e3 ⊢
    rw [and_b k k64 b (by omega), ← e3, bitb k k64 b (by omega)]
    cases k.testBit b <;> simp
/-- the odds, as numbers -/
theorem odds_e (P : PL p 0 c h n s t) : ∃ od : Nat → Nat, (∀ i, od i ≤ 10) ∧ ∀ i, i < n → s.1 (bS p i) 3 = I (od i) ∧ t.1 115 i = I (od i) := by
  refine ⟨fun i => if i < n then (t.1 115 i).toInt.toNat else 0, fun i => ?_, fun i hi => ?_⟩
  · by_cases z : i < n
    · have hO : EqB (s.1 (bS p i) 3) (t.1 115 i) 0 10 := by have := (P.bb z).2.2.1; simpa using this
      show (if i < n then _ else _) ≤ 10
      rw [if_pos z]
      have := hO.2.2
      omega
    · show (if i < n then _ else _) ≤ 10
      rw [if_neg z]; omega
  · have hO : EqB (s.1 (bS p i) 3) (t.1 115 i) 0 10 := by have := (P.bb hi).2.2.1; simpa using this
    show _ = I (if i < n then _ else _) ∧ _ = I (if i < n then _ else _)
    rw [if_pos hi, hO.1]
    exact ⟨I_of hO.2.1, I_of hO.2.1⟩
theorem I10 {k : Nat} (h : k ≤ 10) : (10 - I k : Int32).toInt64 = J (10 - k) := by
  rw [show (10 : Int32) = I 10 from litI 10, I_sub h, I_J (by omega)]
theorem c_weight (P : PL p 0 c h n s t) (hp : s.2.2.1 = p) {od : Nat → Nat} (o1 : ∀ i, od i ≤ 10) (o2 : ∀ i, i < n → s.1 (bS p i) 3 = I (od i)) {X b : Nat} (hX : X < 64) (hb : b < 6) : f_X11_weightOf (I X) (I b) s = some (J (wp od b X n)) := by
  have hn := P.n6
  have key : ∀ e k, k + e = n → ∀ f, e < f → f_X11_weightOf_l5 (I X) (I b) s f (J (wp od b X k)) (I k) = some (J (wp od b X n)) := by
    intro e
    induction e with
    | zero =>
      intro k hk f hf
      obtain ⟨f', rfl⟩ : ∃ f', f = f' + 1 := ⟨f - 1, by omega⟩
      have hk : k = n := by omega
      subst hk
      simp only [f_X11_weightOf_l5, f_X11_weightOf_l5b, hp, P.1, gd_t, P.nc, if_pos (Int32.le_refl _)]
    | succ e ih =>
      intro k hk f hf
      obtain ⟨f', rfl⟩ : ∃ f', f = f' + 1 := ⟨f - 1, by omega⟩
      have hk2 : ¬ I n ≤ I k := by rw [I_le (by omega) (by omega)]; omega
      have kk : (I k).toNatClampNeg = k := I_nat (by omega)
      have k6 : inb (I k) 6 = true := inb_t (by omega) (by omega)
      have := ih (k + 1) (by omega) f' (by omega)
      rw [wp_s] at this
      by_cases z : k = b
      · have zz : I k = I b := by rw [z]
        rw [if_pos z, Nat.mul_one] at this
        simp only [f_X11_weightOf_l5, f_X11_weightOf_l5b, hp, P.1, gd_t, P.nc, if_neg hk2, if_pos zz, ltb_t, I_succ, this]
      · have zz : ¬ I k = I b := by rw [I_inj (by omega) (by omega)]; exact z
        rw [if_neg z] at this
        have bt := bitb X hX k (by omega)
        cases tb : X.testBit k with
        | false =>
          rw [tb] at bt this
          have b0 : ((I X) >>> (I k &&& 31)) &&& (1 : Int32) = 0 := bt
          rw [if_neg (by decide)] at this
          simp only [f_X11_weightOf_l5, f_X11_weightOf_l5b, hp, P.1, gd_t, P.nc, if_neg hk2, if_neg zz, k6, kk, bS_f, o2 k (by omega), ltb_t, if_pos b0, I10 (o1 k), J_mul, I_succ, this]
        | true =>
          rw [tb] at bt this
          have b0 : ¬ ((I X) >>> (I k &&& 31)) &&& (1 : Int32) = 0 := by rw [bt]; decide
          rw [if_pos (Eq.refl _)] at this
          have ok := o1 k
          simp only [f_X11_weightOf_l5, f_X11_weightOf_l5b, hp, P.1, gd_t, P.nc, if_neg hk2, if_neg zz, k6, kk, bS_f, o2 k (by omega), ltb_t, if_neg b0, I_J (show od k < 2147483648 by omega), J_mul, I_succ, this]
  unfold f_X11_weightOf
  have := key n 0 (by omega) FU (FU_lt (by omega))
  rw [← I0] at this
  exact this
theorem m_weight (P : PL p 0 c h n s t) {od : Nat → Nat} (o1 : ∀ i, od i ≤ 10) (o2 : ∀ i, i < n → t.1 115 i = I (od i)) {X b : Nat} (hX : X < 64) (hb : b < 6) (x2 : Int32) (x3 x5 : Int64) (K : Int64 → HS → Option (Int32 × HS)) : f_X12_chance_l95 (I b) x2 x3 x5 (I X) K FU 1 0 t = K (J (wp od b X n)) t := by
  have hn := P.n6
  have key : ∀ e k, k + e = n → ∀ f, e < f → f_X12_chance_l95 (I b) x2 x3 x5 (I X) K f (J (wp od b X k)) (I k) t = K (J (wp od b X n)) t := by
    intro e
    induction e with
    | zero =>
      intro k hk f hf
      obtain ⟨f', rfl⟩ : ∃ f', f = f' + 1 := ⟨f - 1, by omega⟩
      have hk : k = n := by omega
      subst hk
      simp only [f_X12_chance_l95, f_X12_chance_l95b, P.nm, if_pos (Int32.le_refl _)]
    | succ e ih =>
      intro k hk f hf
      obtain ⟨f', rfl⟩ : ∃ f', f = f' + 1 := ⟨f - 1, by omega⟩
      have hk2 : ¬ I n ≤ I k := by rw [I_le (by omega) (by omega)]; omega
      have kk : (I k).toNatClampNeg = k := I_nat (by omega)
      have k12 : inb (I k) 12 = true := inb_t (by omega) (by omega)
      have := ih (k + 1) (by omega) f' (by omega)
      rw [wp_s] at this
      by_cases z : k = b
      · have zz : I k = I b := by rw [z]
        rw [if_pos z, Nat.mul_one] at this
        simp only [f_X12_chance_l95, f_X12_chance_l95b, P.nm, if_neg hk2, if_pos zz, ltb_t, I_succ, Int64.mul_one, this]
      · have zz : ¬ I k = I b := by rw [I_inj (by omega) (by omega)]; exact z
        rw [if_neg z] at this
        have bt := bitb X hX k (by omega)
        cases tb : X.testBit k with
        | false =>
          rw [tb] at bt this
          have b0 : ¬ ((I X) >>> (I k &&& 31)) &&& (1 : Int32) = 1 := by rw [bt]; decide
          rw [if_neg (by decide)] at this
          simp only [f_X12_chance_l95, f_X12_chance_l95b, P.nm, if_neg hk2, if_neg zz, k12, gd_t, kk, o2 k (by omega), ltb_t, if_neg b0, I10 (o1 k), J_mul, I_succ, this]
        | true =>
          rw [tb] at bt this
          have b0 : ((I X) >>> (I k &&& 31)) &&& (1 : Int32) = 1 := bt
          rw [if_pos (Eq.refl _)] at this
          have ok := o1 k
          simp only [f_X12_chance_l95, f_X12_chance_l95b, P.nm, if_neg hk2, if_neg zz, k12, gd_t, kk, o2 k (by omega), ltb_t, if_pos b0, I_J (show od k < 2147483648 by omega), J_mul, I_succ, this]
  have := key n 0 (by omega) FU (FU_lt (by omega))
  rw [← I0] at this
  exact this
theorem m_below (P : PL p 0 c h n s t) {b : Nat} (hb : b < 6) (x2 : Int32) (x3 : Int64) (K : Int64 → HS → Option (Int32 × HS)) : f_X12_chance_l30 (I b) x2 x3 K FU 1 0 t = K (J (bp b n)) t := by
  have hn := P.n6
  have key : ∀ e k, k + e = n → ∀ f, e < f → f_X12_chance_l30 (I b) x2 x3 K f (J (bp b k)) (I k) t = K (J (bp b n)) t := by
    intro e
    induction e with
    | zero =>
      intro k hk f hf
      obtain ⟨f', rfl⟩ : ∃ f', f = f' + 1 := ⟨f - 1, by omega⟩
      have hk : k = n := by omega
      subst hk
      simp only [f_X12_chance_l30, f_X12_chance_l30b, P.nm, if_pos (Int32.le_refl _)]
    | succ e ih =>
      intro k hk f hf
      obtain ⟨f', rfl⟩ : ∃ f', f = f' + 1 := ⟨f - 1, by omega⟩
      have hk2 : ¬ I n ≤ I k := by rw [I_le (by omega) (by omega)]; omega
      have := ih (k + 1) (by omega) f' (by omega)
      rw [bp_s] at this
      by_cases z : k = b
      · have zz : I k = I b := by rw [z]
        rw [if_pos z, Nat.mul_one] at this
        simp only [f_X12_chance_l30, f_X12_chance_l30b, P.nm, if_neg hk2, if_pos zz, ltb_t, I_succ, Int64.mul_one, this]
      · have zz : ¬ I k = I b := by rw [I_inj (by omega) (by omega)]; exact z
        rw [if_neg z] at this
        simp only [f_X12_chance_l30, f_X12_chance_l30b, P.nm, if_neg hk2, if_neg zz, ltb_t, I_succ, show (10 : Int64) = J 10 from rfl, J_mul, this]
  have := key n 0 (by omega) FU (FU_lt (by omega))
  rw [← I0] at this
  exact this
theorem cmp0 {w : Nat} (hw : w < 9223372036854775808) : (lg_cmp (J w) 0 ≤ 0 ↔ w = 0) ∧ (lg_cmp (J w) 0 = 0 ↔ w = 0) := by
  unfold lg_cmp
  have e1 : J w > 0 ↔ 0 < w := by
    show (0 : Int64) < J w ↔ _
    rw [show (0 : Int64) = J 0 from rfl, Int64.lt_iff_toInt_lt, J_toInt (by omega), J_toInt (by omega)]; omega
  have e2 : J w = 0 ↔ w = 0 := by rw [show (0 : Int64) = J 0 from rfl, ← Int64.toInt_inj, J_toInt (by omega), J_toInt (by omega)]; omega
  by_cases z : 0 < w
  · rw [if_pos (e1.mpr z)]
    exact ⟨⟨fun q => absurd q (by decide), fun q => by omega⟩, ⟨fun q => absurd q (by decide), fun q => by omega⟩⟩
  · rw [if_neg (fun q => z (e1.mp q)), if_pos (e2.mpr (by omega))]
    exact ⟨⟨fun _ => by omega, fun _ => by decide⟩, ⟨fun _ => by omega, fun _ => rfl⟩⟩
theorem st_chance (R : Rel p d c h n s t) (v : Int32) : ∃ x s' t', f_X11_chance v s = some (x, s') ∧ f_X12_chance v t = some (x, t') ∧ Rel p d c h n s' t' := by
  have R0 := R.t0
  have okp := okX4_c R.2.1.1
  have hn := R.2.1.n6
  have p64 : 2 ^ n ≤ 64 := (Nat.pow_le_pow_right (by omega) hn.2.2 : 2 ^ n ≤ 2 ^ 6)
  have p1 : 1 ≤ 2 ^ n := Nat.one_le_two_pow
  have pz : ((2 ^ n : Nat) : Int) = (2 : Int) ^ n := by push_cast; rfl
  rcases bu_e R0 v with ⟨b, hb, rfl, a1, a2⟩ | ⟨a1, a2⟩
  case inr =>
    refine ⟨-1, s, sI t 101 0 0, ?_, ?_, R0⟩
    · unfold f_X11_chance
      rw [a1, bnd_t, if_pos (Eq.refl _)]
    · unfold f_X12_chance
      rw [ltb_t (a := sI t 101 0 0), a2, if_pos (Eq.refl _)]
  have b6 : inb (I b) 6 = true := inb_t (by omega) (by omega)
  have b12 : inb (I b) 12 = true := inb_t (by omega) (by omega)
  have bb : (I b).toNatClampNeg = b := I_nat (by omega)
  have b2n : 2 ^ b < 2 ^ n := Nat.pow_lt_pow_right (by omega) hb
  obtain ⟨s2, e1, T0, f1⟩ := r_copy R
  obtain ⟨od, o1, o2⟩ := odds_e R0.2.1
  have wpb : ∀ X, wp od b X n ≤ 1000000 := fun X => Nat.le_trans (wp_b o1 n) (Nat.pow_le_pow_right (by omega) hn.2.2 : 10 ^ n ≤ 10 ^ 6)
  -- the sums, choice by choice
  let f : Nat → Nat := fun o => if o.testBit b then 0 else wp od b o n
  have key := lock (σ := Nat × HS) (τ := HS) (2 ^ n) (2 ^ n) (fun o => o.testBit b = false) (fun X => X.testBit b = true) (fun o => o + 2 ^ b)
    (fun o x X y => ∃ g s' t', (∀ K f', 2 ^ n - o < f' → f_X11_chance_l33 (I b) (I (2 ^ b)) K f' (J x.1) (J (nsum f o)) (I o) x.2 = K (J g) (J (nsum f (2 ^ n))) s') ∧ (∀ x2 x5 K f', 2 ^ n - X < f' → f_X12_chance_l68 (I b) x2 x5 K f' (J x.1) (I X) y = K (J g) t') ∧ (∀ q, q ≠ 0 → t'.1 145 q = t.1 145 q) ∧ g ≤ 64 * 1000000)
    (fun o x y => x.1 ≤ o * 1000000 ∧ o ≤ 64 ∧ TRL p c h n x.2 y ∧ (∀ i, i < n → x.2.1 (bS p i) 3 = I (od i)) ∧ (∀ i, i < n → y.1 115 i = I (od i)) ∧ ∀ q, q ≠ 0 → y.1 145 q = t.1 145 q)
    (fun o ho sb => ?_) (fun X hX mX => ?_) (fun o o' _ _ _ _ => by omega) ?_ (fun o x y ho _ hQ => ⟨Nat.le_trans hQ.1 (Nat.mul_le_mul_right _ (Nat.le_succ o)), by omega, hQ.2.2⟩) ?_ ?_ ?_ (2 ^ n + 2 ^ n) 0 (0, s2) 0 (sI t 101 0 0) (by omega) (by omega) (by omega) (fun o' _ _ => ⟨fun _ => Nat.zero_le _, fun _ => Nat.zero_le _⟩) ⟨Nat.zero_le _, by omega, T0, fun i hi => ?_, fun i hi => (o2 i hi).2, fun q _ => by rw [sI_n _ _ _ (by decide)]⟩
  · obtain ⟨g, s', t', g1, g2, g3, g4⟩ := key
    have all : nsum f (2 ^ n) = bp b n := by
      rw [← up_sum (b := b) o1 n]
      exact nsum_congr (fun X _ => (up_wp hb).symm)
    rw [all] at g1
    have bpb := bp_b (b := b) n
    have bp6 : bp b n ≤ 1000000 := Nat.le_trans bpb.2 (Nat.pow_le_pow_right (by omega) hn.2.2 : 10 ^ n ≤ 10 ^ 6)
    have nz : (!(J (bp b n) == 0)) = true := by
      rw [Bool.not_eq_true', beq_eq_false_iff_ne]
      intro q
      rw [show (0 : Int64) = J 0 from rfl, ← Int64.toInt_inj, J_toInt (by omega), J_toInt (by omega)] at q
      omega
    have g1 := g1 (fun v25 v26 s27 => (if (lg_cmp v26 0) ≤ 0 then some (0, s27) else gd (!(v26 == 0)) (some (((v25 * 1000000) / v26 : Int64).toInt32, s27)))) FU (FU_lt (by omega))
    have g2 := g2 ((sI t 101 0 0).1 145 0) (J (bp b n)) (fun v42 s43 => ltb (sI s43 145 (0) ((sI t 101 0 0).1 145 0)) fun s44 => gd true (some (((v42 * 1000000) / (J (bp b n)) : Int64).toInt32, s44))) FU (FU_lt (by omega))
    rw [show nsum f 0 = 0 from rfl, show J 0 = 0 from rfl, I_e0] at g1
    rw [show J 0 = 0 from rfl, I_e0] at g2
    have nc : ¬ lg_cmp (J (bp b n)) 0 ≤ 0 := fun q => by have := (cmp0 (by omega)).1.mp q; omega
    rw [if_neg nc, nz, gd_t] at g1
    have c1 : f_X11_chance (I b) s = some (((J g * 1000000) / (J (bp b n)) : Int64).toInt32, s') := by
      unfold f_X11_chance
      rw [a1, bnd_t, if_neg one_ne, e1, bnd_t, ltb_t, sh1 b (by omega), g1]
    have c2 : f_X12_chance (I b) t = some (((J g * 1000000) / (J (bp b n)) : Int64).toInt32, sI t' 145 0 ((sI t 101 0 0).1 145 0)) := by
      unfold f_X12_chance
      rw [ltb_t (a := sI t 101 0 0), a2, if_neg one_ne, ltb_t, m_below R0.2.1 (by omega), nz, g2, ltb_t, gd_t]
    refine ⟨_, s', _, c1, c2, R.back (K := [(145, 0)]) (M' := L_X12_chance.filter (fun q => q.1 != 145)) (w_X11_chance _ s _ c1) ((w_X12_chance _ t _ c2).mono (by decide +kernel)) (by rcases okp with rfl | rfl <;> decide +kernel) (by decide +kernel) (fun o k hk => ?_) (by decide)⟩
    have := wm1 hk
    subst this
    rw [sI_s]
    by_cases z : k = 0
    · rw [if_pos z, z, sI_n _ _ _ (by decide)]
    · rw [if_neg z]; exact g3 k z
  · -- φ
    obtain ⟨q1, q2, -⟩ := or_b o (by omega) b (by omega) sb
    exact ⟨by rw [← q1]; exact Nat.or_lt_two_pow ho b2n, q2⟩
  · obtain ⟨q1, q2⟩ := un_b X (by omega) b (by omega) mX
    exact ⟨X - 2 ^ b, Nat.lt_of_le_of_lt (Nat.sub_le _ _) hX, q2, Nat.sub_add_cancel q1⟩
  · -- the class passes over
    intro o x X y ho nb hQ hG
    obtain ⟨g, s', t', g1, g2, g3⟩ := hG
    have tb : o.testBit b = true := by cases q : o.testBit b with
      | true => rfl
      | false => exact absurd q nb
    refine ⟨g, s', t', fun K f' hf => ?_, g2, g3⟩
    obtain ⟨f', rfl⟩ : ∃ f'', f' = f'' + 1 := ⟨f' - 1, by omega⟩
    have h2 : ¬ I (2 ^ n) ≤ I o := by rw [I_le (by omega) (by omega)]; omega
    have nz : ¬ I o &&& I (2 ^ b) = 0 := fun q => by rw [(and_b o (by omega) b (by omega)).mp q] at tb; cases tb
    have c0 : lg_cmp (0 : Int64) 0 ≤ 0 := by decide
    have g1 := g1 K f' (by omega)
    have e0 : nsum f (o + 1) = nsum f o := by
      show nsum f o + (if o.testBit b then 0 else _) = _
      rw [tb]; rfl
    rw [e0] at g1
    simp only [f_X11_chance_l33, f_X11_chance_l33b, hQ.2.2.1.1, hQ.2.2.1.2.1.1, gd_t, hQ.2.2.1.2.1.nc, sh1 n hn.2.2, if_neg h2, if_neg nz, f_X11_chance_j65, ltb_t, if_pos c0, Int64.add_zero, I_succ, g1]
  · -- the reference passes over
    intro o x X y hX nb hQ hG
    obtain ⟨g, s', t', g1, g2, g3⟩ := hG
    have tb : X.testBit b = false := by cases q : X.testBit b with
      | true => exact absurd q nb
      | false => rfl
    refine ⟨g, s', t', g1, fun x2 x5 K f' hf => ?_, g3⟩
    obtain ⟨f', rfl⟩ : ∃ f'', f' = f'' + 1 := ⟨f' - 1, by omega⟩
    have all : f_X12_allBuyers y = I (2 ^ n - 1) := by
      unfold f_X12_allBuyers
      rw [hQ.2.2.1.2.1.nm, sh1 n hn.2.2, show (1 : Int32) = I 1 from litI 1, I_sub p1]
    have h2 : ¬ I (2 ^ n - 1) < I X := by rw [I_lt (by omega) (by omega)]; omega
    have z0 : ((I X) >>> (I b &&& 31)) &&& (1 : Int32) = 0 := by rw [bitb X (by omega) b (by omega), tb]; rfl
    simp only [f_X12_chance_l68, f_X12_chance_l68b, all, if_neg h2, if_pos z0, ltb_t, I_succ, g2 x2 x5 K f' (by omega)]
  · -- both
    intro o x y ho sb hQ hG
    obtain ⟨x1, s1⟩ := x
    obtain ⟨Q1, Q2, T, Q4, Q5, Q6⟩ := hQ
    have Q1 : x1 ≤ o * 1000000 := Q1
    have T : TRL p c h n s1 y := T
    have Q4 : ∀ i, i < n → s1.1 (bS p i) 3 = I (od i) := Q4
    have up1 : x1 ≤ (o + 1) * 1000000 := Nat.le_trans Q1 (Nat.mul_le_mul_right _ (Nat.le_succ o))
    obtain ⟨r1, r2, r3⟩ := or_b o (by omega) b (by omega) sb
    have lt : o + 2 ^ b < 2 ^ n := by rw [← r1]; exact Nat.or_lt_two_pow ho b2n
    have h2 : ¬ I (2 ^ n) ≤ I o := by rw [I_le (by omega) (by omega)]; omega
    have h3 : ¬ I (2 ^ n - 1) < I (o + 2 ^ b) := by rw [I_lt (by omega) (by omega)]; omega
    have all : f_X12_allBuyers y = I (2 ^ n - 1) := by
      unfold f_X12_allBuyers
      rw [T.2.1.nm, sh1 n hn.2.2, show (1 : Int32) = I 1 from litI 1, I_sub p1]
    have nz : I o &&& I (2 ^ b) = 0 := (and_b o (by omega) b (by omega)).mpr sb
    have z1 : ¬ ((I (o + 2 ^ b)) >>> (I b &&& 31)) &&& (1 : Int32) = 0 := by rw [bitb _ (by omega) b (by omega), r2]; decide
    have wc := c_weight T.2.1 T.1 o1 Q4 (X := o) (b := b) (by omega) (by omega)
    have we : wp od b (o + 2 ^ b) n = wp od b o n := wp_congr (fun i hi nb => or_bi o (by omega) b (by omega) i (by omega) nb sb)
    have fo : f o = wp od b o n := by show (if o.testBit b then 0 else _) = _; rw [sb]; rfl
    have wl := wpb o
    have up2 : x1 + wp od b o n ≤ (o + 1) * 1000000 := by
      rw [Nat.add_mul, Nat.one_mul]
      exact Nat.add_le_add Q1 wl
    have c1 : ∀ K f', f_X11_chance_l33 (I b) (I (2 ^ b)) K (f' + 1) (J x1) (J (nsum f o)) (I o) s1 = f_X11_chance_j65 (I b) (I (2 ^ b)) (J x1) (J (nsum f o)) (I o) (J (wp od b o n)) (f_X11_chance_l33 (I b) (I (2 ^ b)) K f') s1 := fun K f' => by
      simp only [f_X11_chance_l33, f_X11_chance_l33b, T.1, T.2.1.1, gd_t, T.2.1.nc, sh1 n hn.2.2, if_neg h2, if_pos nz, wc, bnd_t]
    have c2 : ∀ x2 x5 K f', f_X12_chance_l68 (I b) x2 x5 K (f' + 1) (J x1) (I (o + 2 ^ b)) y = (if (lg_cmp (J (wp od b o n)) 0) = 0 then f_X12_chance_l68 (I b) x2 x5 K f' (J x1) (I (o + 2 ^ b + 1)) y else bnd (f_X12_runs (sI y 145 0 (I (o + 2 ^ b)))) fun s33 => bnd (f_X12_hasAll (I b) s33) fun y34 => (if y34 = 0 then f_X12_chance_l68 (I b) x2 x5 K f' (J x1) (I (o + 2 ^ b + 1)) s33 else f_X12_chance_l68 (I b) x2 x5 K f' (J (x1 + wp od b o n)) (I (o + 2 ^ b + 1)) s33)) := fun x2 x5 K f' => by
      simp only [f_X12_chance_l68, f_X12_chance_l68b, all, if_neg h3, if_neg z1]
      rw [m_weight T.2.1 o1 Q5 (by omega) (by omega), we]
      simp only [ltb_t, Int64.add_zero, I_succ, J_add]
    obtain ⟨k1, k2⟩ := cmp0 (w := wp od b o n) (by omega)
    have ns : J (nsum f o) + J (wp od b o n) = J (nsum f (o + 1)) := by rw [J_add, ← fo]; rfl
    by_cases wz : wp od b o n = 0
    · obtain ⟨g, s', t', g1, g2, g3⟩ := hG (x1, s1) y ⟨up1, by omega, T, Q4, Q5, Q6⟩
      refine ⟨g, s', t', fun K f' hf => ?_, fun x2 x5 K f' hf => ?_, g3⟩
      · obtain ⟨f', rfl⟩ : ∃ f'', f' = f'' + 1 := ⟨f' - 1, by omega⟩
        rw [c1]
        unfold f_X11_chance_j65
        rw [ns, ltb_t, if_pos (k1.mpr wz), ltb_t, I_succ]
        exact g1 K f' (by omega)
      · obtain ⟨f', rfl⟩ : ∃ f'', f' = f'' + 1 := ⟨f' - 1, by omega⟩
        rw [c2, if_pos (k2.mpr wz)]
        exact g2 x2 x5 K f' (by omega)
    · have b64 : I (o + 2 ^ b) = I (o + 2 ^ b) := rfl
      obtain ⟨s3, t3, d1, d2, d3, d4, d5, d6, d7, d8⟩ := r_pT (T.out (v := I (o + 2 ^ b)) (by rw [I_toInt (by omega)]; omega))
      obtain ⟨ra, rb⟩ := r_hasAll d5.2.1 d4 hb
      have Q4' : ∀ i, i < n → s3.1 (bS p i) 3 = I (od i) := fun i hi => by
        have hO : EqB (s3.1 (bS p i) 3) (t3.1 115 i) 0 10 := by have := (d5.2.1.bb hi).2.2.1; simpa using this
        rw [hO.1, d8.o (by decide +kernel), sI_n _ _ _ (by decide)]; exact Q5 i hi
      have Q5' : ∀ i, i < n → t3.1 115 i = I (od i) := fun i hi => by
        rw [d8.o (by decide +kernel), sI_n _ _ _ (by decide)]; exact Q5 i hi
      have Q6' : ∀ q, q ≠ 0 → t3.1 145 q = t.1 145 q := fun q hq => by rw [d6, sI_s, if_neg hq]; exact Q6 q hq
      obtain ⟨⟨-, u2, u3⟩, -⟩ := d4.2.1 b hb
      have hbits : f_X12_bits (t3.1 152 b) t3 = some (bc (t3.1 152 b)) := r_bits (I_of u2) (by omega)
      have hall : f_X12_hasAll (I b) t3 = some (if bc (t3.1 152 b) = t3.1 118 b then (if t3.1 154 b = 0 then 1 else 0) else 0) := by
        unfold f_X12_hasAll
        rw [b6, gd_t, bb, hbits, bnd_t, b12, gd_t, gd_t]
        by_cases w1 : bc (t3.1 152 b) = t3.1 118 b
        · rw [if_pos w1, if_pos w1]
          by_cases w2 : t3.1 154 b = 0
          · rw [if_pos w2, if_pos w2]
          · rw [if_neg w2, if_neg w2]
        · rw [if_neg w1, if_neg w1]
      by_cases good : bc (t3.1 152 b) = t3.1 118 b ∧ t3.1 154 b = 0
      · obtain ⟨g, s', t', g1, g2, g3⟩ := hG (x1 + wp od b o n, s3) t3 ⟨up2, by omega, d5, Q4', Q5', Q6'⟩
        refine ⟨g, s', t', fun K f' hf => ?_, fun x2 x5 K f' hf => ?_, g3⟩
        · obtain ⟨f', rfl⟩ : ∃ f'', f' = f'' + 1 := ⟨f' - 1, by omega⟩
          rw [c1]
          unfold f_X11_chance_j65
          rw [ns, ltb_t, if_neg (fun q => wz (k1.mp q)), r3, ltb_t, d1, bnd_t, b6, gd_t, gd_t, d5.1, d5.2.1.1, gd_t, bb, bS_f, if_pos (ra.mpr good.1), if_pos (rb.mpr good.2), ltb_t, ltb_t, J_add, I_succ]
          exact g1 K f' (by omega)
        · obtain ⟨f', rfl⟩ : ∃ f'', f' = f'' + 1 := ⟨f' - 1, by omega⟩
          rw [c2, if_neg (fun q => wz (k2.mp q)), d2, bnd_t, hall, if_pos good.1, if_pos good.2, bnd_t, if_neg one_ne]
          exact g2 x2 x5 K f' (by omega)
      · obtain ⟨g, s', t', g1, g2, g3⟩ := hG (x1, s3) t3 ⟨up1, by omega, d5, Q4', Q5', Q6'⟩
        refine ⟨g, s', t', fun K f' hf => ?_, fun x2 x5 K f' hf => ?_, g3⟩
        · obtain ⟨f', rfl⟩ : ∃ f'', f' = f'' + 1 := ⟨f' - 1, by omega⟩
          rw [c1]
          unfold f_X11_chance_j65
          rw [ns, ltb_t, if_neg (fun q => wz (k1.mp q)), r3, ltb_t, d1, bnd_t, b6, gd_t, gd_t, d5.1, d5.2.1.1, gd_t, bb, bS_f]
          by_cases w1 : bc (t3.1 152 b) = t3.1 118 b
          · rw [if_pos (ra.mpr w1), if_neg (fun q => good ⟨w1, rb.mp q⟩), ltb_t, I_succ]
            exact g1 K f' (by omega)
          · rw [if_neg (fun q => w1 (ra.mp q)), ltb_t, I_succ]
            exact g1 K f' (by omega)
        · obtain ⟨f', rfl⟩ : ∃ f'', f' = f'' + 1 := ⟨f' - 1, by omega⟩
          have e0 : (if bc (t3.1 152 b) = t3.1 118 b then (if t3.1 154 b = 0 then (1 : Int32) else 0) else 0) = 0 := by
            by_cases w1 : bc (t3.1 152 b) = t3.1 118 b
            · rw [if_pos w1, if_neg (fun q => good ⟨w1, q⟩)]
            · rw [if_neg w1]
          rw [c2, if_neg (fun q => wz (k2.mp q)), d2, bnd_t, hall, e0, bnd_t, if_pos (Eq.refl _)]
          exact g2 x2 x5 K f' (by omega)
  · -- the end
    intro x y hQ
    obtain ⟨x1, s1⟩ := x
    obtain ⟨Q1, Q2, T, Q4, Q5, Q6⟩ := hQ
    have Q1 : x1 ≤ 2 ^ n * 1000000 := Q1
    have T : TRL p c h n s1 y := T
    refine ⟨x1, s1, y, fun K f' hf => ?_, fun x2 x5 K f' hf => ?_, Q6, Nat.le_trans Q1 (Nat.mul_le_mul_right _ p64)⟩
    · obtain ⟨f', rfl⟩ : ∃ f'', f' = f'' + 1 := ⟨f' - 1, by omega⟩
      simp only [f_X11_chance_l33, f_X11_chance_l33b, T.1, T.2.1.1, gd_t, T.2.1.nc, sh1 n hn.2.2, if_pos (Int32.le_refl _)]
    · obtain ⟨f', rfl⟩ : ∃ f'', f' = f'' + 1 := ⟨f' - 1, by omega⟩
      have all : f_X12_allBuyers y = I (2 ^ n - 1) := by
        unfold f_X12_allBuyers
        rw [T.2.1.nm, sh1 n hn.2.2, show (1 : Int32) = I 1 from litI 1, I_sub p1]
      have h3 : I (2 ^ n - 1) < I (2 ^ n) := by rw [I_lt (by omega) (by omega)]; omega
      simp only [f_X12_chance_l68, f_X12_chance_l68b, all, if_pos h3]
  · have hO : EqB (s2.1 (bS p i) 3) ((sI t 101 0 0).1 115 i) 0 10 := by have := (T0.2.1.bb hi).2.2.1; simpa using this
    show s2.1 (bS p i) 3 = _
    rw [hO.1]; exact (o2 i hi).2
end CHANCE
