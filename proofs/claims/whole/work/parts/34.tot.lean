/-! Totals of a round -/
theorem sum2 (F G : Nat → Int32 → Int32 → Option Int32) (n : Nat) (hn : n < 100) (hs : ∀ k, k < n → ∃ y : Int32, (∀ f a, F (f + 1) a (I k) = F f (a + y) (I (k + 1))) ∧ (∀ f a, G (f + 1) a (I k) = G f (a + y) (I (k + 1))))
    (e1 : ∀ f a, F (f + 1) a (I n) = some a) (e2 : ∀ f a, G (f + 1) a (I n) = some a) : ∃ x, F FU 0 0 = some x ∧ G FU 0 0 = some x := by
  have key : ∀ d k, k + d = n → ∃ y : Int32, (∀ f a, d < f → F f a (I k) = some (a + y)) ∧ (∀ f a, d < f → G f a (I k) = some (a + y)) := by
    intro d
    induction d with
    | zero =>
      intro k hk
      have hk : k = n := by omega
      subst hk
      refine ⟨0, fun f a hf => ?_, fun f a hf => ?_⟩
      · obtain ⟨f', rfl⟩ : ∃ f', f = f' + 1 := ⟨f - 1, by omega⟩
        rw [e1, Int32.add_zero]
      · obtain ⟨f', rfl⟩ : ∃ f', f = f' + 1 := ⟨f - 1, by omega⟩
        rw [e2, Int32.add_zero]
    | succ d ih =>
      intro k hk
      obtain ⟨y, h1, h2⟩ := ih (k + 1) (by omega)
      obtain ⟨z, g1, g2⟩ := hs k (by omega)
      refine ⟨z + y, fun f a hf => ?_, fun f a hf => ?_⟩
      · obtain ⟨f', rfl⟩ : ∃ f', f = f' + 1 := ⟨f - 1, by omega⟩
        rw [g1, h1 _ _ (by omega), Int32.add_assoc]
      · obtain ⟨f', rfl⟩ : ∃ f', f = f' + 1 := ⟨f - 1, by omega⟩
        rw [g2, h2 _ _ (by omega), Int32.add_assoc]
  obtain ⟨y, h1, h2⟩ := key n 0 (by omega)
  refine ⟨0 + y, ?_, ?_⟩
  · have := h1 FU 0 (FU_lt (by omega))
    rw [← I0] at this; exact this
  · have := h2 FU 0 (FU_lt (by omega))
    rw [← I0] at this; exact this
def bc (v : Int32) : Int32 := f_J6_bitCount_0f7a4 v s_0
theorem bc_e (v : Int32) (s : HS) : f_J6_bitCount_0f7a4 v s = bc v := by unfold bc f_J6_bitCount_0f7a4; exact Eq.refl _
def sumb (v : Int32) : Nat → Int32
  | 0 => 0
  | m + 1 => sumb v m + ((v >>> (I m &&& 31)) &&& 1)
theorem sumb_bc : ∀ n, n ≤ 6 → ∀ k, k < 2 ^ n → sumb (I k) n = bc (I k) := by decide +kernel
theorem sumb_b6 : ∀ k, k < 64 → sumb (I k) 6 = bc (I k) := by decide +kernel
theorem bc_0 : ∀ k, k < 64 → (bc (I k) ≤ 0 ↔ k = 0) := by decide +kernel
theorem bits_l (v : Int32) (s : HS) : ∀ d k, k + d = 6 → ∀ f a, d < f → f_X12_bits_l4 v s f (a + sumb v k) (I k) = some (a + sumb v 6) := by
  intro d
  induction d with
  | zero =>
    intro k hk f a hf
    obtain ⟨f', rfl⟩ : ∃ f', f = f' + 1 := ⟨f - 1, by omega⟩
    have hk : k = 6 := by omega
    subst hk
    simp only [f_X12_bits_l4, f_X12_bits_l4b]
    exact if_pos (by decide)
  | succ d ih =>
    intro k hk f a hf
    obtain ⟨f', rfl⟩ : ∃ f', f = f' + 1 := ⟨f - 1, by omega⟩
    have hk6 : ¬ (6 : Int32) ≤ I k := by rw [show (6 : Int32) = I 6 from rfl, I_le (by omega) (by omega)]; omega
    simp only [f_X12_bits_l4, f_X12_bits_l4b, if_neg hk6, ltb_t, I_succ]
    rw [Int32.add_assoc, show sumb v k + ((v >>> (I k &&& 31)) &&& 1) = sumb v (k + 1) from rfl]
    exact ih (k + 1) (by omega) f' a (by omega)
theorem r_bits {v : Int32} {s : HS} {k : Nat} (h : v = I k) (hk : k < 64) : f_X12_bits v s = some (bc v) := by
  subst h
  unfold f_X12_bits
  have := bits_l (I k) s 6 0 (by omega) FU 0 (FU_lt (by omega))
  rw [show sumb (I k) 0 = 0 from rfl, Int32.add_zero, ← I0] at this
  rw [this, sumb_b6 k hk, Int32.zero_add]
/-- what a round leaves behind -/
def RSi (i : Nat) (s t : HS) : Prop := s.1 76 i = t.1 150 i ∧ (t.1 150 i = -1 ∨ 0 ≤ (t.1 150 i).toInt) ∧ s.1 77 i = t.1 151 i ∧ (t.1 151 i = -1 ∨ 0 ≤ (t.1 151 i).toInt) ∧ f_X12_goesAt (I i) t = some (s.1 75 i)
def OUTi (i : Nat) (t : HS) : Prop := ¬ ((t.1 145 0) >>> (I i &&& 31)) &&& (1 : Int32) = 0
/-- what he has drunk is among what he wants -/
def DW (i : Nat) (t : HS) : Prop := ∃ x, x < 32 ∧ t.1 152 i = I x ∧ ∀ q, q < 6 → x.testBit q = true → ∃ m k, m ≤ 3 ∧ t.1 118 i = I m ∧ k < m ∧ t.1 117 (3 * i + k) = I q
def RSd (i : Nat) (s t : HS) : Prop := EqB (s.1 78 i) (t.1 152 i) 0 31 ∧ EqB (s.1 79 i) (t.1 153 i) 0 31 ∧ ((s.1 73 15) >>> (I i &&& 31)) &&& 1 = t.1 154 i ∧ (¬ OUTi i t → t.1 152 i = 0 ∧ t.1 154 i = 0) ∧ DW i t
def RS (n : Nat) (s t : HS) : Prop := (∀ i, i < n → RSi i s t) ∧ (∀ i, i < n → RSd i s t) ∧ ∃ k, k < 2 ^ n ∧ s.1 73 15 = I k
theorem neg1 {x : Int32} (h : x = -1 ∨ 0 ≤ x.toInt) : (x < 0 ↔ x = -1) := by
  rw [Int32.lt_iff_toInt_lt, Int32.toInt_zero]
  rcases h with rfl | h
  · simp
  · constructor
    · intro; omega
    · rintro rfl
      have : (-1 : Int32).toInt = -1 := by decide
      omega
section TOT
variable {p c h n : Nat} {s t : HS}
theorem r_drunkD (P : PL p 0 c h n s t) (hp : s.2.2.2.2.1 = p) (R : ∀ i, i < n → RSd i s t) : ∃ x, f_X6_drunkInAll s = some x ∧ f_X12_drunkInAll t = some x := by
  have hn := P.n6
  refine sum2 (f_X6_drunkInAll_l4 s) (f_X12_drunkInAll_l4 t) n (by omega) (fun k hk => ?_) (fun f a => ?_) (fun f a => ?_)
  · obtain ⟨⟨d1, d2, d3⟩, -, -⟩ := R k hk
    have hk2 : ¬ I n ≤ I k := by rw [I_le (by omega) (by omega)]; omega
    have kk : (I k).toNatClampNeg = k := I_nat (by omega)
    have k6 : inb (I k) 6 = true := inb_t (by omega) (by omega)
    refine ⟨bc (t.1 152 k), fun f a => ?_, fun f a => ?_⟩
    · simp only [f_X6_drunkInAll_l4, f_X6_drunkInAll_l4b, hp, P.1, gd_t, P.nc, if_neg hk2, k6, kk, ltb_t, I_succ, bc_e, d1]
    · simp only [f_X12_drunkInAll_l4, f_X12_drunkInAll_l4b, P.nm, gd_t, if_neg hk2, k6, kk, ltb_t, I_succ, r_bits (I_of d2) (by omega), bnd_t]
  · simp only [f_X6_drunkInAll_l4, f_X6_drunkInAll_l4b, hp, P.1, gd_t, P.nc, if_pos (Int32.le_refl _)]
  · simp only [f_X12_drunkInAll_l4, f_X12_drunkInAll_l4b, P.nm, if_pos (Int32.le_refl _)]
theorem r_drunkInAll (P : PL p 0 c h n s t) (hp : s.2.2.2.2.1 = p) (R : RS n s t) : ∃ x, f_X6_drunkInAll s = some x ∧ f_X12_drunkInAll t = some x := r_drunkD P hp R.2.1
theorem r_leftInAll (P : PL p 0 c h n s t) (hp : s.2.2.2.2.1 = p) (R : RS n s t) : ∃ x, f_X6_leftInAll s = some x ∧ f_X12_leftInAll t = some x := by
  have hn := P.n6
  refine sum2 (f_X6_leftInAll_l4 s) (f_X12_leftInAll_l4 t) n (by omega) (fun k hk => ?_) (fun f a => ?_) (fun f a => ?_)
  · obtain ⟨-, ⟨d1, d2, d3⟩, -⟩ := R.2.1 k hk
    have hk2 : ¬ I n ≤ I k := by rw [I_le (by omega) (by omega)]; omega
    have kk : (I k).toNatClampNeg = k := I_nat (by omega)
    have k6 : inb (I k) 6 = true := inb_t (by omega) (by omega)
    refine ⟨bc (t.1 153 k), fun f a => ?_, fun f a => ?_⟩
    · simp only [f_X6_leftInAll_l4, f_X6_leftInAll_l4b, hp, P.1, gd_t, P.nc, if_neg hk2, k6, kk, ltb_t, I_succ, bc_e, d1]
    · simp only [f_X12_leftInAll_l4, f_X12_leftInAll_l4b, P.nm, gd_t, if_neg hk2, k6, kk, ltb_t, I_succ, r_bits (I_of d2) (by omega), bnd_t]
  · simp only [f_X6_leftInAll_l4, f_X6_leftInAll_l4b, hp, P.1, gd_t, P.nc, if_pos (Int32.le_refl _)]
  · simp only [f_X12_leftInAll_l4, f_X12_leftInAll_l4b, P.nm, if_pos (Int32.le_refl _)]
theorem r_paid (P : PL p 0 c h n s t) (hp : s.2.2.2.2.1 = p) (R : RS n s t) : ∃ x, f_X6_paid s = some x ∧ f_X12_pence t = some x := by
  have hn := P.n6
  refine sum2 (f_X6_paid_l4 s) (f_X12_pence_l4 t) n (by omega) (fun k hk => ?_) (fun f a => ?_) (fun f a => ?_)
  · obtain ⟨-, -, d1, d2, -⟩ := R.1 k hk
    have hk2 : ¬ I n ≤ I k := by rw [I_le (by omega) (by omega)]; omega
    have kk : (I k).toNatClampNeg = k := I_nat (by omega)
    have k6 : inb (I k) 6 = true := inb_t (by omega) (by omega)
    obtain ⟨y, y1, y2, -⟩ := r_price P hk
    by_cases q : t.1 151 k = -1
    · refine ⟨0, fun f a => ?_, fun f a => ?_⟩
      · simp only [f_X6_paid_l4, f_X6_paid_l4b, hp, P.1, gd_t, P.nc, if_neg hk2, k6, kk, ltb_t, I_succ, d1, if_pos q]
      · simp only [f_X12_pence_l4, f_X12_pence_l4b, P.nm, if_neg hk2, r_price0 P hk rfl ((neg1 d2).mpr q), ltb_t, I_succ, Int32.add_zero]
    · refine ⟨y, fun f a => ?_, fun f a => ?_⟩
      · simp only [f_X6_paid_l4, f_X6_paid_l4b, hp, P.1, gd_t, P.nc, if_neg hk2, k6, kk, ltb_t, I_succ, d1, if_neg q, y1, bnd_t]
      · simp only [f_X12_pence_l4, f_X12_pence_l4b, P.nm, if_neg hk2, y2 t rfl rfl rfl (fun z => q ((neg1 d2).mp z)), ltb_t, I_succ]
  · simp only [f_X6_paid_l4, f_X6_paid_l4b, hp, P.1, gd_t, P.nc, if_pos (Int32.le_refl _)]
  · simp only [f_X12_pence_l4, f_X12_pence_l4b, P.nm, if_pos (Int32.le_refl _)]
theorem r_servedBy (P : PL p 0 c h n s t) (hp : s.2.2.2.2.1 = p) (R : RS n s t) {u v : Int32} (huv : ∀ i, i < n → (u < t.1 151 i ↔ v < t.1 151 i)) : ∃ x, f_X6_servedBy u s = some x ∧ f_X12_servedBy v t = some x := by
  have hn := P.n6
  refine sum2 (f_X6_servedBy_l4 u s) (f_X12_servedBy_l4 v t) n (by omega) (fun k hk => ?_) (fun f a => ?_) (fun f a => ?_)
  · obtain ⟨-, -, d1, d2, -⟩ := R.1 k hk
    have hk2 : ¬ I n ≤ I k := by rw [I_le (by omega) (by omega)]; omega
    have kk : (I k).toNatClampNeg = k := I_nat (by omega)
    have k6 : inb (I k) 6 = true := inb_t (by omega) (by omega)
    have huv := huv k hk
    by_cases q : t.1 151 k = -1
    · refine ⟨0, fun f a => ?_, fun f a => ?_⟩
      · simp only [f_X6_servedBy_l4, f_X6_servedBy_l4b, hp, P.1, gd_t, P.nc, if_neg hk2, k6, kk, ltb_t, I_succ, d1, if_pos q, Int32.add_zero]
      · simp only [f_X12_servedBy_l4, f_X12_servedBy_l4b, P.nm, gd_t, if_neg hk2, k6, kk, if_pos ((neg1 d2).mpr q), ltb_t, I_succ]
    · have q2 : ¬ t.1 151 k < 0 := fun z => q ((neg1 d2).mp z)
      by_cases q3 : u < t.1 151 k
      · refine ⟨0, fun f a => ?_, fun f a => ?_⟩
        · simp only [f_X6_servedBy_l4, f_X6_servedBy_l4b, hp, P.1, gd_t, P.nc, if_neg hk2, k6, kk, ltb_t, I_succ, d1, if_neg q, if_pos q3, Int32.add_zero]
        · simp only [f_X12_servedBy_l4, f_X12_servedBy_l4b, P.nm, gd_t, if_neg hk2, k6, kk, if_neg q2, if_pos (huv.mp q3), ltb_t, I_succ]
      · refine ⟨1, fun f a => ?_, fun f a => ?_⟩
        · simp only [f_X6_servedBy_l4, f_X6_servedBy_l4b, hp, P.1, gd_t, P.nc, if_neg hk2, k6, kk, ltb_t, I_succ, d1, if_neg q, if_neg q3]
        · simp only [f_X12_servedBy_l4, f_X12_servedBy_l4b, P.nm, gd_t, if_neg hk2, k6, kk, if_neg q2, if_neg (fun z => q3 (huv.mpr z)), ltb_t, I_succ]
  · simp only [f_X6_servedBy_l4, f_X6_servedBy_l4b, hp, P.1, gd_t, P.nc, if_pos (Int32.le_refl _)]
  · simp only [f_X12_servedBy_l4, f_X12_servedBy_l4b, P.nm, if_pos (Int32.le_refl _)]
/-- how many are behind -/
theorem r_behind (P : PL p 0 c h n s t) (R : RS n s t) : ∃ k, k < 64 ∧ s.1 73 15 = I k ∧ f_X12_behindInAll t = some (bc (I k)) := by
  have hn := P.n6
  obtain ⟨k, k1, k2⟩ := R.2.2
  have hk64 : k < 64 := Nat.lt_of_lt_of_le k1 (Nat.pow_le_pow_right (by omega) hn.2.2)
  refine ⟨k, hk64, k2, ?_⟩
  have key : ∀ d i, i + d = n → ∀ f, d < f → f_X12_behindInAll_l4 t f (sumb (I k) i) (I i) = some (sumb (I k) n) := by
    intro d
    induction d with
    | zero =>
      intro i hi f hf
      obtain ⟨f', rfl⟩ : ∃ f', f = f' + 1 := ⟨f - 1, by omega⟩
      have hi : i = n := by omega
      subst hi
      simp only [f_X12_behindInAll_l4, f_X12_behindInAll_l4b, P.nm, if_pos (Int32.le_refl _)]
    | succ d ih =>
      intro i hi f hf
      obtain ⟨f', rfl⟩ : ∃ f', f = f' + 1 := ⟨f - 1, by omega⟩
      have hi2 : ¬ I n ≤ I i := by rw [I_le (by omega) (by omega)]; omega
      have ii : (I i).toNatClampNeg = i := I_nat (by omega)
      have i6 : inb (I i) 6 = true := inb_t (by omega) (by omega)
      have e := (R.2.1 i (by omega)).2.2.1
      rw [k2] at e
      simp only [f_X12_behindInAll_l4, f_X12_behindInAll_l4b, P.nm, gd_t, if_neg hi2, i6, ii, ltb_t, I_succ, ← e]
      exact ih (i + 1) (by omega) f' (by omega)
  have := key n 0 (by omega) FU (FU_lt (by omega))
  rw [show sumb (I k) 0 = 0 from rfl, ← I0, sumb_bc n hn.2.2 k k1] at this
  unfold f_X12_behindInAll
  exact this
end TOT
