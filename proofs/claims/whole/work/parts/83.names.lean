/-! Names: the class's base 32, the reference's base 27 -/
def kr (b : Nat) : List Nat → Nat
  | [] => 0
  | x :: l => kr b l * b + x
theorem kf_kr (b : Nat) (l : List Nat) : kf b l = kr b l.reverse := by
  unfold kf
  rw [List.foldl_eq_foldr_reverse]
  induction l.reverse with
  | nil => rfl
  | cons x m ih => show _ * b + x = _ * b + x; rw [ih]
theorem kr_inj {b : Nat} (hb : 27 ≤ b) : ∀ l m : List Nat, (∀ x ∈ l, 1 ≤ x ∧ x ≤ 26) → (∀ x ∈ m, 1 ≤ x ∧ x ≤ 26) → kr b l = kr b m → l = m := by
  intro l
  induction l with
  | nil =>
    intro m _ hm e
    cases m with
    | nil => rfl
    | cons y m =>
      have := hm y (List.mem_cons_self ..)
      have e : 0 = kr b m * b + y := e
      omega
  | cons x l ih =>
    intro m hl hm e
    have hx := hl x (List.mem_cons_self ..)
    cases m with
    | nil =>
      have e : kr b l * b + x = 0 := e
      omega
    | cons y m =>
      have hy := hm y (List.mem_cons_self ..)
      have e : kr b l * b + x = kr b m * b + y := e
      have h1 : (kr b l * b + x) % b = x := by rw [Nat.mul_comm, Nat.mul_add_mod]; exact Nat.mod_eq_of_lt (by omega)
      have h2 : (kr b m * b + y) % b = y := by rw [Nat.mul_comm, Nat.mul_add_mod]; exact Nat.mod_eq_of_lt (by omega)
      have xy : x = y := by rw [← h1, ← h2, e]
      subst xy
      have h3 : kr b l * b = kr b m * b := by omega
      have h4 : kr b l = kr b m := Nat.eq_of_mul_eq_mul_right (by omega) h3
      rw [ih m (fun z hz => hl z (List.mem_cons_of_mem _ hz)) (fun z hz => hm z (List.mem_cons_of_mem _ hz)) h4]
theorem kr_lt {b : Nat} (hb : 27 ≤ b) : ∀ l : List Nat, (∀ x ∈ l, 1 ≤ x ∧ x ≤ 26) → kr b l < b ^ l.length := by
  intro l
  induction l with
  | nil => intro _; exact Nat.one_pos
  | cons x l ih =>
    intro hl
    have hx := hl x (List.mem_cons_self ..)
    have := ih (fun z hz => hl z (List.mem_cons_of_mem _ hz))
    show kr b l * b + x < b ^ (l.length + 1)
    rw [Nat.pow_succ]
    have h1 : (kr b l + 1) * b ≤ b ^ l.length * b := Nat.mul_le_mul_right b this
    rw [Nat.add_mul, Nat.one_mul] at h1
    omega
theorem kf_inj {b : Nat} (hb : 27 ≤ b) {l m : List Nat} (hl : ∀ x ∈ l, 1 ≤ x ∧ x ≤ 26) (hm : ∀ x ∈ m, 1 ≤ x ∧ x ≤ 26) (e : kf b l = kf b m) : l = m := by
  rw [kf_kr, kf_kr] at e
  have := kr_inj hb l.reverse m.reverse (fun x hx => hl x (List.mem_reverse.mp hx)) (fun x hx => hm x (List.mem_reverse.mp hx)) e
  exact List.reverse_inj.mp this
theorem kf_lt {b : Nat} (hb : 27 ≤ b) (hb2 : b ≤ 32) {l : List Nat} (hl : ∀ x ∈ l, 1 ≤ x ∧ x ≤ 26) (h8 : l.length ≤ 8) : kf b l < 9223372036854775808 := by
  rw [kf_kr]
  have := kr_lt hb l.reverse (fun x hx => hl x (List.mem_reverse.mp hx))
  rw [List.length_reverse] at this
  have h1 : b ^ l.length ≤ b ^ 8 := Nat.pow_le_pow_right (by omega) h8
  have h2 : b ^ 8 ≤ 32 ^ 8 := Nat.pow_le_pow_left hb2 8
  omega
/-- two names are one name in both -/
theorem NMk.iff {k w k' w' : Int64} (N : NMk k w) (N' : NMk k' w') : k = k' ↔ w = w' := by
  obtain ⟨l, l1, l2, rfl, rfl⟩ := N
  obtain ⟨m, m1, m2, rfl, rfl⟩ := N'
  have inj : ∀ b, 27 ≤ b → b ≤ 32 → (Int64.ofNat (kf b l) = Int64.ofNat (kf b m) ↔ l = m) := fun b h1 h2 => by
    constructor
    · intro e
      have e1 : (Int64.ofNat (kf b l)).toInt = (Int64.ofNat (kf b m)).toInt := by rw [e]
      have a := kf_lt h1 h2 l1 l2
      have b' := kf_lt h1 h2 m1 m2
      rw [Int64.toInt_ofNat_of_lt a, Int64.toInt_ofNat_of_lt b'] at e1
      exact kf_inj h1 l1 m1 (by omega)
    · intro e; rw [e]
  rw [inj 32 (by omega) (by omega), inj 27 (by omega) (by omega)]
