/-! Level 2: numbers, loops -/
def I (n : Nat) : Int32 := Int32.ofNat n
theorem I_toInt {n : Nat} (h : n < 2147483648) : (I n).toInt = (n : Int) := Int32.toInt_ofNat_of_lt h
theorem I_nat {n : Nat} (h : n < 2147483648) : (I n).toNatClampNeg = n := by
  show (I n).toInt.toNat = n
  rw [I_toInt h]; rfl
theorem I_add (a b : Nat) : I a + I b = I (a + b) := (Int32.ofNat_add a b).symm
theorem I_mul (a b : Nat) : I a * I b = I (a * b) := (Int32.ofNat_mul a b).symm
theorem I_succ (a : Nat) : I a + 1 = I (a + 1) := I_add a 1
theorem I_le {a b : Nat} (ha : a < 2147483648) (hb : b < 2147483648) : I a ≤ I b ↔ a ≤ b := by
  rw [Int32.le_iff_toInt_le, I_toInt ha, I_toInt hb]; omega
theorem I_lt {a b : Nat} (ha : a < 2147483648) (hb : b < 2147483648) : I a < I b ↔ a < b := by
  rw [Int32.lt_iff_toInt_lt, I_toInt ha, I_toInt hb]; omega
theorem I_inj {a b : Nat} (ha : a < 2147483648) (hb : b < 2147483648) : I a = I b ↔ a = b := by
  rw [← Int32.toInt_inj, I_toInt ha, I_toInt hb]; omega
theorem I_sub {a b : Nat} (h : b ≤ a) : I a - I b = I (a - b) := by
  have : I (a - b) + I b = I a := by rw [I_add, Nat.sub_add_cancel h]
  rw [← this]
  exact Int32.add_sub_cancel _ _
/-- any number that isn't below 0 -/
theorem I_of {x : Int32} (h : 0 ≤ x.toInt) : x = I x.toInt.toNat := by
  rw [← Int32.toInt_inj, I_toInt (by have := Int32.toInt_lt x; omega)]; omega
theorem inb_I {n m : Nat} (h : n < 2147483648) : inb (I n) m = decide (n < m) := by
  unfold inb
  rw [I_nat h]
  have : ¬ I n < 0 := by rw [show (0 : Int32) = I 0 from rfl, I_lt h (by decide)]; omega
  simp [this]
theorem inb_t {n m : Nat} (h : n < m) (hm : m ≤ 5000) : inb (I n) m = true := by rw [inb_I (by omega)]; simpa using h
theorem ti_add {a b : Int32} (h1 : -2147483648 ≤ a.toInt + b.toInt) (h2 : a.toInt + b.toInt < 2147483648) : (a + b).toInt = a.toInt + b.toInt := by
  rw [Int32.toInt_add]; exact Int.bmod_eq_of_le (by simpa using h1) (by simpa using h2)
theorem ti_sub {a b : Int32} (h1 : -2147483648 ≤ a.toInt - b.toInt) (h2 : a.toInt - b.toInt < 2147483648) : (a - b).toInt = a.toInt - b.toInt := by
  rw [Int32.toInt_sub]; exact Int.bmod_eq_of_le (by simpa using h1) (by simpa using h2)
theorem ti_mul {a b : Int32} (h1 : -2147483648 ≤ a.toInt * b.toInt) (h2 : a.toInt * b.toInt < 2147483648) : (a * b).toInt = a.toInt * b.toInt := by
  rw [Int32.toInt_mul]; exact Int.bmod_eq_of_le (by simpa using h1) (by simpa using h2)
theorem gd_t {α : Type} {x : Option α} : gd true x = x := by unfold gd; exact if_pos rfl
theorem bnd_t {α β : Type} {a : α} {f : α → Option β} : bnd (some a) f = f a := by unfold bnd; exact Eq.refl _
theorem bnd2_t {α γ β : Type} {a : α} {c : γ} {f : α → γ → Option β} : bnd2 (some (a, c)) f = f a c := by unfold bnd2; exact Eq.refl _
theorem ltb_t {α β : Type} {a : α} {f : α → β} : ltb a f = f a := by unfold ltb; exact Eq.refl _
/-- two loops, step by step together -/
theorem lq2 {σ τ β γ : Type} (F : Nat → σ → β) (G : Nat → τ → γ) (P : Nat → σ → τ → Prop) (N : Nat)
    (hs : ∀ i x y, i < N → P i x y → ∃ x' y', P (i + 1) x' y' ∧ (∀ f, F (f + 1) x = F f x') ∧ (∀ g, G (g + 1) y = G g y')) :
    ∀ d k f g x y, k + d = N → d < f → d < g → P k x y → ∃ x' y' f' g', P N x' y' ∧ F f x = F (f' + 1) x' ∧ G g y = G (g' + 1) y' := by
  intro d
  induction d with
  | zero =>
    intro k f g x y hk hf hg hp
    obtain ⟨f', rfl⟩ : ∃ f', f = f' + 1 := ⟨f - 1, by omega⟩
    obtain ⟨g', rfl⟩ : ∃ g', g = g' + 1 := ⟨g - 1, by omega⟩
    exact ⟨x, y, f', g', by rw [← hk]; exact hp, rfl, rfl⟩
  | succ d ih =>
    intro k f g x y hk hf hg hp
    obtain ⟨f', rfl⟩ : ∃ f', f = f' + 1 := ⟨f - 1, by omega⟩
    obtain ⟨g', rfl⟩ : ∃ g', g = g' + 1 := ⟨g - 1, by omega⟩
    obtain ⟨x', y', h1, h2, h3⟩ := hs k x y (by omega) hp
    obtain ⟨x2, y2, f2, g2, a1, a2, a3⟩ := ih (k + 1) f' g' x' y' (by omega) (by omega) (by omega) h1
    exact ⟨x2, y2, f2, g2, a1, (h2 f').trans a2, (h3 g').trans a3⟩
/-- one loop alone -/
theorem lq1 {σ β : Type} (F : Nat → σ → β) (P : Nat → σ → Prop) (N : Nat) (hs : ∀ i x, i < N → P i x → ∃ x', P (i + 1) x' ∧ (∀ f, F (f + 1) x = F f x')) :
    ∀ d k f x, k + d = N → d < f → P k x → ∃ x' f', P N x' ∧ F f x = F (f' + 1) x' := by
  intro d
  induction d with
  | zero =>
    intro k f x hk hf hp
    obtain ⟨f', rfl⟩ : ∃ f', f = f' + 1 := ⟨f - 1, by omega⟩
    exact ⟨x, f', by rw [← hk]; exact hp, rfl⟩
  | succ d ih =>
    intro k f x hk hf hp
    obtain ⟨f', rfl⟩ : ∃ f', f = f' + 1 := ⟨f - 1, by omega⟩
    obtain ⟨x', h1, h2⟩ := hs k x (by omega) hp
    obtain ⟨x2, f2, a1, a2⟩ := ih (k + 1) f' x' (by omega) (by omega) h1
    exact ⟨x2, f2, a1, (h2 f').trans a2⟩
theorem FU_s : ∃ f, FU = f + 1 := ⟨4999, rfl⟩
theorem FU_lt {d : Nat} (h : d < 5000) : d < FU := h
