/-! The heap when all objects are there: ints, longs, the five references that change -/
abbrev HS : Type := (Nat → Nat → Int32) × (Nat → Nat → Int64) × (Nat × Nat × Nat × Nat × Nat)
def hp (s : HS) : HP := (s.1, s.2.1, Rs s.2.2)
def sI (s : HS) (o k : Nat) (x : Int32) : HS := (up2 s.1 o k x, s.2)
def sL (s : HS) (o k : Nat) (x : Int64) : HS := (s.1, up2 s.2.1 o k x, s.2.2)
def sA (s : HS) (o : Nat) (f : Nat → Int32) : HS := (fun o' => if o' = o then f else s.1 o', s.2)
def sQ1 (s : HS) (r : Nat) : HS := (s.1, s.2.1, (r, s.2.2.2))
def sQ2 (s : HS) (r : Nat) : HS := (s.1, s.2.1, (s.2.2.1, r, s.2.2.2.2))
def sQ3 (s : HS) (r : Nat) : HS := (s.1, s.2.1, (s.2.2.1, s.2.2.2.1, r, s.2.2.2.2.2))
def sQ4 (s : HS) (r : Nat) : HS := (s.1, s.2.1, (s.2.2.1, s.2.2.2.1, s.2.2.2.2.1, r, s.2.2.2.2.2.2))
def sQ5 (s : HS) (r : Nat) : HS := (s.1, s.2.1, (s.2.2.1, s.2.2.2.1, s.2.2.2.2.1, s.2.2.2.2.2.1, r))
def gd {α : Type} (b : Bool) (x : Option α) : Option α := if b then x else none
def ltb {α β : Type} (x : α) (f : α → β) : β := f x
def bnd {α β : Type} (x : Option α) (f : α → Option β) : Option β := match x with | some a => f a | none => none
def bnd2 {α γ β : Type} (x : Option (α × γ)) (f : α → γ → Option β) : Option β := match x with | some a => f a.1 a.2 | none => none
theorem gd_some {α : Type} {b : Bool} {x : Option α} {r : α} (h : gd b x = some r) : b = true ∧ x = some r := by
  unfold gd at h
  cases b with
  | true => exact ⟨rfl, h⟩
  | false => cases h
theorem ltb_s {α β : Type} {x : α} {f : α → β} {r : β} (h : ltb x f = r) : ∃ y, y = x ∧ f y = r := ⟨x, rfl, h⟩
theorem bnd_s {α β : Type} {x : Option α} {f : α → Option β} {r : β} (h : bnd x f = some r) : ∃ y, x = some y ∧ f y = some r := by
  cases x with
  | none => cases h
  | some a => exact ⟨a, rfl, h⟩
theorem bnd2_s {α γ β : Type} {x : Option (α × γ)} {f : α → γ → Option β} {r : β} (h : bnd2 x f = some r) : ∃ y z, x = some (y, z) ∧ f y z = some r := by
  cases x with
  | none => cases h
  | some a => exact ⟨a.1, a.2, rfl, h⟩
theorem if_t {α : Sort _} {c : Prop} [Decidable c] {a b r : α} (h : c) (hf : (if c then a else b) = r) : a = r := by rw [if_pos h] at hf; exact hf
theorem if_f {α : Sort _} {c : Prop} [Decidable c] {a b r : α} (h : ¬ c) (hf : (if c then a else b) = r) : b = r := by rw [if_neg h] at hf; exact hf
def inb (i : Int32) (n : Nat) : Bool := decide (¬ i < 0) && decide (i.toNatClampNeg < n)
theorem inb_v {i : Int32} {n : Nat} (h : inb i n = true) : vp_in i n := by
  simp only [inb, Bool.and_eq_true, decide_eq_true_eq] at h
  exact fun q => q.elim h.1 (fun z => absurd h.2 (Nat.not_lt.mpr z))
def isb (x : Int32) : Bool := x == 0 || x == 1
theorem isb_n {x : Int32} (h : isb x = true) : narrow .boolean (.int x) = .int x := by
  simp only [isb, Bool.or_eq_true, beq_iff_eq] at h
  rcases h with rfl | rfl <;> rfl
def isc (x : Int32) : Bool := decide (narrow .char (.int x) = .int x) && fits .char (.int x)
theorem isc_n {x : Int32} (h : isc x = true) : narrow .char (.int x) = .int x := by simp only [isc, Bool.and_eq_true, decide_eq_true_eq] at h; exact h.1
theorem isc_f {x : Int32} (h : isc x = true) : fits .char (.int x) = true := by simp only [isc, Bool.and_eq_true, decide_eq_true_eq] at h; exact h.2
theorem ne_g {α : Type} [BEq α] [LawfulBEq α] {x y : α} (h : (!(x == y)) = true) : ¬ x = y := by
  intro e; subst e; simp at h
def cpok (sp dp n : Int32) (a b : Nat) : Bool := decide (¬ sp < 0) && (decide (¬ dp < 0) && (decide (¬ n < 0) && (decide (sp.toNatClampNeg + n.toNatClampNeg ≤ a) && decide (dp.toNatClampNeg + n.toNatClampNeg ≤ b))))
theorem cp_s {sp dp n : Int32} {a b : Nat} (h : cpok sp dp n a b = true) : ¬ sp < 0 ∧ ¬ dp < 0 ∧ ¬ n < 0 ∧ sp.toNatClampNeg + n.toNatClampNeg ≤ a ∧ dp.toNatClampNeg + n.toNatClampNeg ≤ b := by
  simpa only [cpok, Bool.and_eq_true, decide_eq_true_eq] using h
theorem cp1 {sp dp n : Int32} {a b : Nat} (h : cpok sp dp n a b = true) : ¬ sp < 0 := (cp_s h).1
theorem cp2 {sp dp n : Int32} {a b : Nat} (h : cpok sp dp n a b = true) : ¬ dp < 0 := (cp_s h).2.1
theorem cp3 {sp dp n : Int32} {a b : Nat} (h : cpok sp dp n a b = true) : ¬ n < 0 := (cp_s h).2.2.1
theorem cp4 {sp dp n : Int32} {a b : Nat} (h : cpok sp dp n a b = true) : sp.toNatClampNeg + n.toNatClampNeg ≤ a := (cp_s h).2.2.2.1
theorem cp5 {sp dp n : Int32} {a b : Nat} (h : cpok sp dp n a b = true) : dp.toNatClampNeg + n.toNatClampNeg ≤ b := (cp_s h).2.2.2.2
def imax (x y : Int32) : Int32 := if x < y then y else x
def imin (x y : Int32) : Int32 := if y < x then y else x
def iabs (x : Int32) : Int32 := if 0 ≤ x then x else 0 - x
theorem nn0 {N : Nat} : NN N N N := ⟨Nat.le_refl _, Nat.le_refl _⟩
def FU : Nat := 5000
def woc (w : Nat) : Bool := decide (1000 ≤ w) && decide (w < 1037)
theorem rva_w {w : Nat} (h : woc w = true) : rva w = .ref (1000 + (w - 1000)) := by
  simp only [woc, Bool.and_eq_true, decide_eq_true_eq] at h
  rw [rva_s (by omega), show 1000 + (w - 1000) = w by omega]
theorem woc_lt {w : Nat} (h : woc w = true) : w - 1000 < 37 := by
  simp only [woc, Bool.and_eq_true, decide_eq_true_eq] at h
  omega
def aok (t a : Nat) : Bool := decide (1 ≤ a) && (decide (a ≤ NF) && ((sk a).1 == t))
theorem aok_a {t a : Nat} (h : aok t a = true) : isA NF a t (sk a).2 := by
  simp only [aok, Bool.and_eq_true, decide_eq_true_eq, beq_iff_eq] at h
  exact ⟨h.1, h.2.1, by rw [← h.2.2]⟩
theorem aok_of {t a n : Nat} (h : isA NF a t n) : aok t a = true := by
  simp only [aok, Bool.and_eq_true, decide_eq_true_eq, beq_iff_eq]
  exact ⟨h.1, h.2.1, by rw [h.2.2]⟩
theorem isA_ne {N o t n : Nat} (h : isA N o t n) : o ≠ 0 := by have := h.1; omega
theorem hp_q1 {s : HS} {r : Nat} : uR (hp s) 1 3 r = hp (sQ1 s r) := by
  refine congrArg (fun f => (s.1, s.2.1, f)) (funext fun o => funext fun k => ?_)
  by_cases h : o = 1
  · subst h
    by_cases h2 : k = 3
    · subst h2
      simp [up2, hp, sQ1, Rs]
    · have hb := beq_eq_false_iff_ne.mpr h2
      simp [up2, hp, sQ1, Rs, h2, hb]
  · have hb := beq_eq_false_iff_ne.mpr h
    simp [up2, hp, sQ1, Rs, h, hb]
theorem hp_q2 {s : HS} {r : Nat} : uR (hp s) 1 4 r = hp (sQ2 s r) := by
  refine congrArg (fun f => (s.1, s.2.1, f)) (funext fun o => funext fun k => ?_)
  by_cases h : o = 1
  · subst h
    by_cases h2 : k = 4
    · subst h2
      simp [up2, hp, sQ2, Rs]
    · have hb := beq_eq_false_iff_ne.mpr h2
      simp [up2, hp, sQ2, Rs, h2, hb]
  · have hb := beq_eq_false_iff_ne.mpr h
    simp [up2, hp, sQ2, Rs, h, hb]
theorem hp_q3 {s : HS} {r : Nat} : uR (hp s) 73 0 r = hp (sQ3 s r) := by
  refine congrArg (fun f => (s.1, s.2.1, f)) (funext fun o => funext fun k => ?_)
  by_cases h : o = 73
  · subst h
    by_cases h2 : k = 0
    · subst h2
      simp [up2, hp, sQ3, Rs]
    · have hb := beq_eq_false_iff_ne.mpr h2
      simp [up2, hp, sQ3, Rs, h2, hb]
  · have hb := beq_eq_false_iff_ne.mpr h
    simp [up2, hp, sQ3, Rs, h, hb]
theorem hp_q4 {s : HS} {r : Nat} : uR (hp s) 73 1 r = hp (sQ4 s r) := by
  refine congrArg (fun f => (s.1, s.2.1, f)) (funext fun o => funext fun k => ?_)
  by_cases h : o = 73
  · subst h
    by_cases h2 : k = 1
    · subst h2
      simp [up2, hp, sQ4, Rs]
    · have hb := beq_eq_false_iff_ne.mpr h2
      simp [up2, hp, sQ4, Rs, h2, hb]
  · have hb := beq_eq_false_iff_ne.mpr h
    simp [up2, hp, sQ4, Rs, h, hb]
theorem hp_q5 {s : HS} {r : Nat} : uR (hp s) 36 8 r = hp (sQ5 s r) := by
  refine congrArg (fun f => (s.1, s.2.1, f)) (funext fun o => funext fun k => ?_)
  by_cases h : o = 36
  · subst h
    by_cases h2 : k = 8
    · subst h2
      simp [up2, hp, sQ5, Rs]
    · have hb := beq_eq_false_iff_ne.mpr h2
      simp [up2, hp, sQ5, Rs, h2, hb]
  · have hb := beq_eq_false_iff_ne.mpr h
    simp [up2, hp, sQ5, Rs, h, hb]
theorem so_1 : isO NF 1 10 := ⟨by decide, by decide, rfl⟩
theorem so_2 : isO NF 2 4 := ⟨by decide, by decide, rfl⟩
theorem sa_3 : isA NF 3 1 4 := ⟨by decide, by decide, rfl⟩
theorem so_4 : isO NF 4 2 := ⟨by decide, by decide, rfl⟩
theorem sa_5 : isA NF 5 1 1000 := ⟨by decide, by decide, rfl⟩
theorem sa_6 : isA NF 6 1 32 := ⟨by decide, by decide, rfl⟩
theorem sa_7 : isA NF 7 2 6 := ⟨by decide, by decide, rfl⟩
theorem sa_8 : isA NF 8 1 6 := ⟨by decide, by decide, rfl⟩
theorem sa_9 : isA NF 9 5 5 := ⟨by decide, by decide, rfl⟩
theorem sa_10 : isA NF 10 6 6 := ⟨by decide, by decide, rfl⟩
theorem so_11 : isO NF 11 9 := ⟨by decide, by decide, rfl⟩
theorem so_12 : isO NF 12 9 := ⟨by decide, by decide, rfl⟩
theorem so_13 : isO NF 13 9 := ⟨by decide, by decide, rfl⟩
theorem so_14 : isO NF 14 9 := ⟨by decide, by decide, rfl⟩
theorem so_15 : isO NF 15 9 := ⟨by decide, by decide, rfl⟩
theorem so_16 : isO NF 16 0 := ⟨by decide, by decide, rfl⟩
theorem sa_17 : isA NF 17 1 3 := ⟨by decide, by decide, rfl⟩
theorem so_18 : isO NF 18 0 := ⟨by decide, by decide, rfl⟩
theorem sa_19 : isA NF 19 1 3 := ⟨by decide, by decide, rfl⟩
theorem so_20 : isO NF 20 0 := ⟨by decide, by decide, rfl⟩
theorem sa_21 : isA NF 21 1 3 := ⟨by decide, by decide, rfl⟩
theorem so_22 : isO NF 22 0 := ⟨by decide, by decide, rfl⟩
theorem sa_23 : isA NF 23 1 3 := ⟨by decide, by decide, rfl⟩
theorem so_24 : isO NF 24 0 := ⟨by decide, by decide, rfl⟩
theorem sa_25 : isA NF 25 1 3 := ⟨by decide, by decide, rfl⟩
theorem so_26 : isO NF 26 0 := ⟨by decide, by decide, rfl⟩
theorem sa_27 : isA NF 27 1 3 := ⟨by decide, by decide, rfl⟩
theorem so_28 : isO NF 28 7 := ⟨by decide, by decide, rfl⟩
theorem sa_29 : isA NF 29 1 5 := ⟨by decide, by decide, rfl⟩
theorem sa_30 : isA NF 30 1 120 := ⟨by decide, by decide, rfl⟩
theorem sa_31 : isA NF 31 1 20 := ⟨by decide, by decide, rfl⟩
theorem sa_32 : isA NF 32 1 12 := ⟨by decide, by decide, rfl⟩
theorem sa_33 : isA NF 33 7 4 := ⟨by decide, by decide, rfl⟩
theorem sa_34 : isA NF 34 1 48 := ⟨by decide, by decide, rfl⟩
theorem sa_35 : isA NF 35 1 384 := ⟨by decide, by decide, rfl⟩
theorem so_36 : isO NF 36 8 := ⟨by decide, by decide, rfl⟩
theorem sa_37 : isA NF 37 3 1000 := ⟨by decide, by decide, rfl⟩
theorem so_38 : isO NF 38 4 := ⟨by decide, by decide, rfl⟩
theorem sa_39 : isA NF 39 1 4 := ⟨by decide, by decide, rfl⟩
theorem so_40 : isO NF 40 2 := ⟨by decide, by decide, rfl⟩
theorem sa_41 : isA NF 41 1 1000 := ⟨by decide, by decide, rfl⟩
theorem sa_42 : isA NF 42 1 32 := ⟨by decide, by decide, rfl⟩
theorem sa_43 : isA NF 43 2 6 := ⟨by decide, by decide, rfl⟩
theorem sa_44 : isA NF 44 1 6 := ⟨by decide, by decide, rfl⟩
theorem sa_45 : isA NF 45 5 5 := ⟨by decide, by decide, rfl⟩
theorem sa_46 : isA NF 46 6 6 := ⟨by decide, by decide, rfl⟩
theorem so_47 : isO NF 47 9 := ⟨by decide, by decide, rfl⟩
theorem so_48 : isO NF 48 9 := ⟨by decide, by decide, rfl⟩
theorem so_49 : isO NF 49 9 := ⟨by decide, by decide, rfl⟩
theorem so_50 : isO NF 50 9 := ⟨by decide, by decide, rfl⟩
theorem so_51 : isO NF 51 9 := ⟨by decide, by decide, rfl⟩
theorem so_52 : isO NF 52 0 := ⟨by decide, by decide, rfl⟩
theorem sa_53 : isA NF 53 1 3 := ⟨by decide, by decide, rfl⟩
theorem so_54 : isO NF 54 0 := ⟨by decide, by decide, rfl⟩
theorem sa_55 : isA NF 55 1 3 := ⟨by decide, by decide, rfl⟩
theorem so_56 : isO NF 56 0 := ⟨by decide, by decide, rfl⟩
theorem sa_57 : isA NF 57 1 3 := ⟨by decide, by decide, rfl⟩
theorem so_58 : isO NF 58 0 := ⟨by decide, by decide, rfl⟩
theorem sa_59 : isA NF 59 1 3 := ⟨by decide, by decide, rfl⟩
theorem so_60 : isO NF 60 0 := ⟨by decide, by decide, rfl⟩
theorem sa_61 : isA NF 61 1 3 := ⟨by decide, by decide, rfl⟩
theorem so_62 : isO NF 62 0 := ⟨by decide, by decide, rfl⟩
theorem sa_63 : isA NF 63 1 3 := ⟨by decide, by decide, rfl⟩
theorem so_64 : isO NF 64 7 := ⟨by decide, by decide, rfl⟩
theorem sa_65 : isA NF 65 1 5 := ⟨by decide, by decide, rfl⟩
theorem sa_66 : isA NF 66 1 120 := ⟨by decide, by decide, rfl⟩
theorem sa_67 : isA NF 67 1 20 := ⟨by decide, by decide, rfl⟩
theorem sa_68 : isA NF 68 1 12 := ⟨by decide, by decide, rfl⟩
theorem so_69 : isO NF 69 5 := ⟨by decide, by decide, rfl⟩
theorem so_70 : isO NF 70 3 := ⟨by decide, by decide, rfl⟩
theorem so_71 : isO NF 71 1 := ⟨by decide, by decide, rfl⟩
theorem sa_72 : isA NF 72 1 120 := ⟨by decide, by decide, rfl⟩
theorem so_73 : isO NF 73 6 := ⟨by decide, by decide, rfl⟩
theorem sa_74 : isA NF 74 1 6 := ⟨by decide, by decide, rfl⟩
theorem sa_75 : isA NF 75 1 6 := ⟨by decide, by decide, rfl⟩
theorem sa_76 : isA NF 76 1 6 := ⟨by decide, by decide, rfl⟩
theorem sa_77 : isA NF 77 1 6 := ⟨by decide, by decide, rfl⟩
theorem sa_78 : isA NF 78 1 6 := ⟨by decide, by decide, rfl⟩
theorem sa_79 : isA NF 79 1 6 := ⟨by decide, by decide, rfl⟩
theorem sa_80 : isA NF 80 1 2 := ⟨by decide, by decide, rfl⟩
theorem so_81 : isO NF 81 7 := ⟨by decide, by decide, rfl⟩
theorem sa_82 : isA NF 82 1 5 := ⟨by decide, by decide, rfl⟩
theorem sa_83 : isA NF 83 1 120 := ⟨by decide, by decide, rfl⟩
theorem sa_84 : isA NF 84 1 20 := ⟨by decide, by decide, rfl⟩
theorem sa_85 : isA NF 85 1 12 := ⟨by decide, by decide, rfl⟩
theorem so_86 : isO NF 86 7 := ⟨by decide, by decide, rfl⟩
theorem sa_87 : isA NF 87 1 5 := ⟨by decide, by decide, rfl⟩
theorem sa_88 : isA NF 88 1 120 := ⟨by decide, by decide, rfl⟩
theorem sa_89 : isA NF 89 1 20 := ⟨by decide, by decide, rfl⟩
theorem sa_90 : isA NF 90 1 12 := ⟨by decide, by decide, rfl⟩
theorem so_91 : isO NF 91 7 := ⟨by decide, by decide, rfl⟩
theorem sa_92 : isA NF 92 1 5 := ⟨by decide, by decide, rfl⟩
theorem sa_93 : isA NF 93 1 120 := ⟨by decide, by decide, rfl⟩
theorem sa_94 : isA NF 94 1 20 := ⟨by decide, by decide, rfl⟩
theorem sa_95 : isA NF 95 1 12 := ⟨by decide, by decide, rfl⟩
theorem so_96 : isO NF 96 7 := ⟨by decide, by decide, rfl⟩
theorem sa_97 : isA NF 97 1 5 := ⟨by decide, by decide, rfl⟩
theorem sa_98 : isA NF 98 1 120 := ⟨by decide, by decide, rfl⟩
theorem sa_99 : isA NF 99 1 20 := ⟨by decide, by decide, rfl⟩
theorem sa_100 : isA NF 100 1 12 := ⟨by decide, by decide, rfl⟩
theorem so_101 : isO NF 101 11 := ⟨by decide, by decide, rfl⟩
theorem sa_102 : isA NF 102 1 1000 := ⟨by decide, by decide, rfl⟩
theorem sa_103 : isA NF 103 1 20 := ⟨by decide, by decide, rfl⟩
theorem sa_104 : isA NF 104 2 12 := ⟨by decide, by decide, rfl⟩
theorem sa_105 : isA NF 105 2 10 := ⟨by decide, by decide, rfl⟩
theorem sa_106 : isA NF 106 2 12 := ⟨by decide, by decide, rfl⟩
theorem sa_107 : isA NF 107 1 12 := ⟨by decide, by decide, rfl⟩
theorem sa_108 : isA NF 108 1 10 := ⟨by decide, by decide, rfl⟩
theorem sa_109 : isA NF 109 1 10 := ⟨by decide, by decide, rfl⟩
theorem sa_110 : isA NF 110 1 10 := ⟨by decide, by decide, rfl⟩
theorem sa_111 : isA NF 111 1 10 := ⟨by decide, by decide, rfl⟩
theorem sa_112 : isA NF 112 1 10 := ⟨by decide, by decide, rfl⟩
theorem sa_113 : isA NF 113 1 12 := ⟨by decide, by decide, rfl⟩
theorem sa_114 : isA NF 114 1 12 := ⟨by decide, by decide, rfl⟩
theorem sa_115 : isA NF 115 1 12 := ⟨by decide, by decide, rfl⟩
theorem sa_116 : isA NF 116 1 12 := ⟨by decide, by decide, rfl⟩
theorem sa_117 : isA NF 117 1 36 := ⟨by decide, by decide, rfl⟩
theorem sa_118 : isA NF 118 1 12 := ⟨by decide, by decide, rfl⟩
theorem sa_119 : isA NF 119 1 8 := ⟨by decide, by decide, rfl⟩
theorem sa_120 : isA NF 120 1 2 := ⟨by decide, by decide, rfl⟩
theorem sa_121 : isA NF 121 1 2 := ⟨by decide, by decide, rfl⟩
theorem sa_122 : isA NF 122 1 2000 := ⟨by decide, by decide, rfl⟩
theorem sa_123 : isA NF 123 1 7 := ⟨by decide, by decide, rfl⟩
theorem sa_124 : isA NF 124 4 7 := ⟨by decide, by decide, rfl⟩
theorem sa_125 : isA NF 125 1 7 := ⟨by decide, by decide, rfl⟩
theorem sa_126 : isA NF 126 1 7 := ⟨by decide, by decide, rfl⟩
theorem sa_127 : isA NF 127 1 7 := ⟨by decide, by decide, rfl⟩
theorem sa_128 : isA NF 128 1 7 := ⟨by decide, by decide, rfl⟩
theorem sa_129 : isA NF 129 1 7 := ⟨by decide, by decide, rfl⟩
theorem sa_130 : isA NF 130 1 7 := ⟨by decide, by decide, rfl⟩
theorem sa_131 : isA NF 131 1 7 := ⟨by decide, by decide, rfl⟩
theorem sa_132 : isA NF 132 1 7 := ⟨by decide, by decide, rfl⟩
theorem sa_133 : isA NF 133 1 7 := ⟨by decide, by decide, rfl⟩
theorem sa_134 : isA NF 134 1 20 := ⟨by decide, by decide, rfl⟩
theorem sa_135 : isA NF 135 1 6 := ⟨by decide, by decide, rfl⟩
theorem sa_136 : isA NF 136 1 240 := ⟨by decide, by decide, rfl⟩
theorem sa_137 : isA NF 137 1 240 := ⟨by decide, by decide, rfl⟩
theorem sa_138 : isA NF 138 1 240 := ⟨by decide, by decide, rfl⟩
theorem sa_139 : isA NF 139 1 5 := ⟨by decide, by decide, rfl⟩
theorem sa_140 : isA NF 140 1 50 := ⟨by decide, by decide, rfl⟩
theorem sa_141 : isA NF 141 1 50 := ⟨by decide, by decide, rfl⟩
theorem sa_142 : isA NF 142 1 5 := ⟨by decide, by decide, rfl⟩
theorem sa_143 : isA NF 143 1 30 := ⟨by decide, by decide, rfl⟩
theorem sa_144 : isA NF 144 1 30 := ⟨by decide, by decide, rfl⟩
theorem sa_145 : isA NF 145 1 9 := ⟨by decide, by decide, rfl⟩
theorem sa_146 : isA NF 146 1 18 := ⟨by decide, by decide, rfl⟩
theorem sa_147 : isA NF 147 1 36 := ⟨by decide, by decide, rfl⟩
theorem sa_148 : isA NF 148 1 144 := ⟨by decide, by decide, rfl⟩
theorem sa_149 : isA NF 149 4 4 := ⟨by decide, by decide, rfl⟩
theorem sa_150 : isA NF 150 1 6 := ⟨by decide, by decide, rfl⟩
theorem sa_151 : isA NF 151 1 6 := ⟨by decide, by decide, rfl⟩
theorem sa_152 : isA NF 152 1 6 := ⟨by decide, by decide, rfl⟩
theorem sa_153 : isA NF 153 1 6 := ⟨by decide, by decide, rfl⟩
theorem sa_154 : isA NF 154 1 6 := ⟨by decide, by decide, rfl⟩
theorem sa_155 : isA NF 155 4 6 := ⟨by decide, by decide, rfl⟩
theorem sa_156 : isA NF 156 1 2 := ⟨by decide, by decide, rfl⟩
theorem sa_157 : isA NF 157 1 384 := ⟨by decide, by decide, rfl⟩
theorem sa_158 : isA NF 158 2 1 := ⟨by decide, by decide, rfl⟩
theorem Rs_na {q : Nat × Nat × Nat × Nat × Nat} {o t n k : Nat} (h : isA NF o t n) (ht : t ≠ 0) : Rs q o k = Rf o k := by
  have h1 : o ≠ 1 := by intro e; subst e; exact ht (congrArg Prod.fst h.2.2).symm
  have h2 : o ≠ 73 := by intro e; subst e; exact ht (congrArg Prod.fst h.2.2).symm
  have h3 : o ≠ 36 := by intro e; subst e; exact ht (congrArg Prod.fst h.2.2).symm
  have b1 := beq_eq_false_iff_ne.mpr h1
  have b2 := beq_eq_false_iff_ne.mpr h2
  have b3 := beq_eq_false_iff_ne.mpr h3
  simp [Rs, b1, b2, b3]
def okX0 (p : Nat) : Bool := p == 16 || p == 18 || p == 20 || p == 22 || p == 24 || p == 26 || p == 52 || p == 54 || p == 56 || p == 58 || p == 60 || p == 62
theorem okX0_c {p : Nat} (h : okX0 p = true) : p = 16 ∨ p = 18 ∨ p = 20 ∨ p = 22 ∨ p = 24 ∨ p = 26 ∨ p = 52 ∨ p = 54 ∨ p = 56 ∨ p = 58 ∨ p = 60 ∨ p = 62 := by
  simpa [okX0, Bool.or_eq_true, beq_iff_eq, or_assoc] using h
theorem okX0_o {p : Nat} (h : okX0 p = true) : isO NF p 0 := by
  rcases okX0_c h with rfl | rfl | rfl | rfl | rfl | rfl | rfl | rfl | rfl | rfl | rfl | rfl <;> exact ⟨by decide, by decide, rfl⟩
theorem okX0_ne {p : Nat} (h : okX0 p = true) : p ≠ 0 := by
  have := (okX0_o h).1
  omega
theorem okX0_R {p : Nat} (h : okX0 p = true) {q : Nat × Nat × Nat × Nat × Nat} {k : Nat} : Rs q p k = Rf p k := by
  rcases okX0_c h with rfl | rfl | rfl | rfl | rfl | rfl | rfl | rfl | rfl | rfl | rfl | rfl <;> rfl
def okX2 (p : Nat) : Bool := p == 4 || p == 40
theorem okX2_c {p : Nat} (h : okX2 p = true) : p = 4 ∨ p = 40 := by
  simpa [okX2, Bool.or_eq_true, beq_iff_eq, or_assoc] using h
theorem okX2_o {p : Nat} (h : okX2 p = true) : isO NF p 2 := by
  rcases okX2_c h with rfl | rfl <;> exact ⟨by decide, by decide, rfl⟩
theorem okX2_ne {p : Nat} (h : okX2 p = true) : p ≠ 0 := by
  have := (okX2_o h).1
  omega
theorem okX2_R {p : Nat} (h : okX2 p = true) {q : Nat × Nat × Nat × Nat × Nat} {k : Nat} : Rs q p k = Rf p k := by
  rcases okX2_c h with rfl | rfl <;> rfl
def okX4 (p : Nat) : Bool := p == 2 || p == 38
theorem okX4_c {p : Nat} (h : okX4 p = true) : p = 2 ∨ p = 38 := by
  simpa [okX4, Bool.or_eq_true, beq_iff_eq, or_assoc] using h
theorem okX4_o {p : Nat} (h : okX4 p = true) : isO NF p 4 := by
  rcases okX4_c h with rfl | rfl <;> exact ⟨by decide, by decide, rfl⟩
theorem okX4_ne {p : Nat} (h : okX4 p = true) : p ≠ 0 := by
  have := (okX4_o h).1
  omega
theorem okX4_R {p : Nat} (h : okX4 p = true) {q : Nat × Nat × Nat × Nat × Nat} {k : Nat} : Rs q p k = Rf p k := by
  rcases okX4_c h with rfl | rfl <;> rfl
def okX7 (p : Nat) : Bool := p == 28 || p == 64 || p == 81 || p == 86 || p == 91 || p == 96
theorem okX7_c {p : Nat} (h : okX7 p = true) : p = 28 ∨ p = 64 ∨ p = 81 ∨ p = 86 ∨ p = 91 ∨ p = 96 := by
  simpa [okX7, Bool.or_eq_true, beq_iff_eq, or_assoc] using h
theorem okX7_o {p : Nat} (h : okX7 p = true) : isO NF p 7 := by
  rcases okX7_c h with rfl | rfl | rfl | rfl | rfl | rfl <;> exact ⟨by decide, by decide, rfl⟩
theorem okX7_ne {p : Nat} (h : okX7 p = true) : p ≠ 0 := by
  have := (okX7_o h).1
  omega
theorem okX7_R {p : Nat} (h : okX7 p = true) {q : Nat × Nat × Nat × Nat × Nat} {k : Nat} : Rs q p k = Rf p k := by
  rcases okX7_c h with rfl | rfl | rfl | rfl | rfl | rfl <;> rfl
def okX9 (p : Nat) : Bool := p == 11 || p == 12 || p == 13 || p == 14 || p == 15 || p == 47 || p == 48 || p == 49 || p == 50 || p == 51
theorem okX9_c {p : Nat} (h : okX9 p = true) : p = 11 ∨ p = 12 ∨ p = 13 ∨ p = 14 ∨ p = 15 ∨ p = 47 ∨ p = 48 ∨ p = 49 ∨ p = 50 ∨ p = 51 := by
  simpa [okX9, Bool.or_eq_true, beq_iff_eq, or_assoc] using h
theorem okX9_o {p : Nat} (h : okX9 p = true) : isO NF p 9 := by
  rcases okX9_c h with rfl | rfl | rfl | rfl | rfl | rfl | rfl | rfl | rfl | rfl <;> exact ⟨by decide, by decide, rfl⟩
theorem okX9_ne {p : Nat} (h : okX9 p = true) : p ≠ 0 := by
  have := (okX9_o h).1
  omega
theorem okX9_R {p : Nat} (h : okX9 p = true) {q : Nat × Nat × Nat × Nat × Nat} {k : Nat} : Rs q p k = Rf p k := by
  rcases okX9_c h with rfl | rfl | rfl | rfl | rfl | rfl | rfl | rfl | rfl | rfl <;> rfl
theorem okX2_code {p : Nat} (h : okX2 p = true) : isA NF (Rf p 0) 1 1000 := by
  rcases okX2_c h with rfl | rfl <;> exact ⟨by decide, by decide, rfl⟩
theorem okX2_pile {p : Nat} (h : okX2 p = true) : isA NF (Rf p 2) 1 32 := by
  rcases okX2_c h with rfl | rfl <;> exact ⟨by decide, by decide, rfl⟩
theorem okX0_wants {p : Nat} (h : okX0 p = true) : isA NF (Rf p 5) 1 3 := by
  rcases okX0_c h with rfl | rfl | rfl | rfl | rfl | rfl | rfl | rfl | rfl | rfl | rfl | rfl <;> exact ⟨by decide, by decide, rfl⟩
theorem okX7_hot {p : Nat} (h : okX7 p = true) : isA NF (Rf p 4) 1 5 := by
  rcases okX7_c h with rfl | rfl | rfl | rfl | rfl | rfl <;> exact ⟨by decide, by decide, rfl⟩
theorem okX7_lines {p : Nat} (h : okX7 p = true) : isA NF (Rf p 5) 1 120 := by
  rcases okX7_c h with rfl | rfl | rfl | rfl | rfl | rfl <;> exact ⟨by decide, by decide, rfl⟩
theorem okX7_sold {p : Nat} (h : okX7 p = true) : isA NF (Rf p 7) 1 20 := by
  rcases okX7_c h with rfl | rfl | rfl | rfl | rfl | rfl <;> exact ⟨by decide, by decide, rfl⟩
theorem okX7_seen {p : Nat} (h : okX7 p = true) : isA NF (Rf p 9) 1 12 := by
  rcases okX7_c h with rfl | rfl | rfl | rfl | rfl | rfl <;> exact ⟨by decide, by decide, rfl⟩
theorem okX4_late {p : Nat} (h : okX4 p = true) : isA NF (Rf p 7) 1 4 := by
  rcases okX4_c h with rfl | rfl <;> exact ⟨by decide, by decide, rfl⟩
theorem okX4_order {p : Nat} (h : okX4 p = true) : okX2 (Rf p 8) = true := by
  rcases okX4_c h with rfl | rfl <;> rfl
theorem okX4_coachName {p : Nat} (h : okX4 p = true) : isA NF (Rf p 10) 2 6 := by
  rcases okX4_c h with rfl | rfl <;> exact ⟨by decide, by decide, rfl⟩
theorem okX4_yards {p : Nat} (h : okX4 p = true) : isA NF (Rf p 11) 1 6 := by
  rcases okX4_c h with rfl | rfl <;> exact ⟨by decide, by decide, rfl⟩
theorem okX4_thing {p : Nat} (h : okX4 p = true) : isA NF (Rf p 13) 5 5 := by
  rcases okX4_c h with rfl | rfl <;> exact ⟨by decide, by decide, rfl⟩
theorem okX4_thing_el {p : Nat} {i : Int32} (h : okX4 p = true) (hi : vp_in i 5) : okX9 (Rf (Rf p 13) i.toNatClampNeg) = true := by
  have hj : i.toNatClampNeg < 5 := Nat.not_le.mp fun q => hi (Or.inr q)
  generalize i.toNatClampNeg = j at hj
  have hz : j = 0 ∨ j = 1 ∨ j = 2 ∨ j = 3 ∨ j = 4 := by omega
  rcases okX4_c h with rfl | rfl <;> rcases hz with rfl | rfl | rfl | rfl | rfl <;> rfl
theorem okX4_buyer {p : Nat} (h : okX4 p = true) : isA NF (Rf p 15) 6 6 := by
  rcases okX4_c h with rfl | rfl <;> exact ⟨by decide, by decide, rfl⟩
theorem okX4_buyer_el {p : Nat} {i : Int32} (h : okX4 p = true) (hi : vp_in i 6) : okX0 (Rf (Rf p 15) i.toNatClampNeg) = true := by
  have hj : i.toNatClampNeg < 6 := Nat.not_le.mp fun q => hi (Or.inr q)
  generalize i.toNatClampNeg = j at hj
  have hz : j = 0 ∨ j = 1 ∨ j = 2 ∨ j = 3 ∨ j = 4 ∨ j = 5 := by omega
  rcases okX4_c h with rfl | rfl <;> rcases hz with rfl | rfl | rfl | rfl | rfl | rfl <;> rfl
theorem mk_el {i : Int32} (hi : vp_in i 4) : okX7 (Rf 33 i.toNatClampNeg) = true := by
  have hj : i.toNatClampNeg < 4 := Nat.not_le.mp fun q => hi (Or.inr q)
  generalize i.toNatClampNeg = j at hj
  have hz : j = 0 ∨ j = 1 ∨ j = 2 ∨ j = 3 := by omega
  rcases hz with rfl | rfl | rfl | rfl <;> rfl
theorem tgX0 : ∀ w ∈ u_ws RX0 TX0 8, w ∈ TG := by
  have h1 : (u_ws RX0 TX0 8).all (fun w => decide (w ∈ lw_tbl)) = true := by decide +kernel
  have h2 : (u_ws RX0 TX0 8).all goodWord = true := by decide +kernel
  exact fun w hw => TG_in (of_decide_eq_true (List.all_eq_true.mp h1 w hw)) (List.all_eq_true.mp h2 w hw)
theorem tgX1 : ∀ w ∈ u_ws RX1 TX1 3, w ∈ TG := by
  have h1 : (u_ws RX1 TX1 3).all (fun w => decide (w ∈ lw_tbl)) = true := by decide +kernel
  have h2 : (u_ws RX1 TX1 3).all goodWord = true := by decide +kernel
  exact fun w hw => TG_in (of_decide_eq_true (List.all_eq_true.mp h1 w hw)) (List.all_eq_true.mp h2 w hw)
theorem tgX2 : ∀ w ∈ u_ws RX2 TX2 3, w ∈ TG := by
  have h1 : (u_ws RX2 TX2 3).all (fun w => decide (w ∈ lw_tbl)) = true := by decide +kernel
  have h2 : (u_ws RX2 TX2 3).all goodWord = true := by decide +kernel
  exact fun w hw => TG_in (of_decide_eq_true (List.all_eq_true.mp h1 w hw)) (List.all_eq_true.mp h2 w hw)
theorem tgX3 : ∀ w ∈ u_ws RX3 TX3 1, w ∈ TG := by
  have h1 : (u_ws RX3 TX3 1).all (fun w => decide (w ∈ lw_tbl)) = true := by decide +kernel
  have h2 : (u_ws RX3 TX3 1).all goodWord = true := by decide +kernel
  exact fun w hw => TG_in (of_decide_eq_true (List.all_eq_true.mp h1 w hw)) (List.all_eq_true.mp h2 w hw)
theorem tgX4 : ∀ w ∈ u_ws RX4 TX4 16, w ∈ TG := by
  have h1 : (u_ws RX4 TX4 16).all (fun w => decide (w ∈ lw_tbl)) = true := by decide +kernel
  have h2 : (u_ws RX4 TX4 16).all goodWord = true := by decide +kernel
  exact fun w hw => TG_in (of_decide_eq_true (List.all_eq_true.mp h1 w hw)) (List.all_eq_true.mp h2 w hw)
theorem tgX5 : ∀ w ∈ u_ws RX5 TX5 3, w ∈ TG := by
  have h1 : (u_ws RX5 TX5 3).all (fun w => decide (w ∈ lw_tbl)) = true := by decide +kernel
  have h2 : (u_ws RX5 TX5 3).all goodWord = true := by decide +kernel
  exact fun w hw => TG_in (of_decide_eq_true (List.all_eq_true.mp h1 w hw)) (List.all_eq_true.mp h2 w hw)
theorem tgX6 : ∀ w ∈ u_ws RX6 TX6 17, w ∈ TG := by
  have h1 : (u_ws RX6 TX6 17).all (fun w => decide (w ∈ lw_tbl)) = true := by decide +kernel
  have h2 : (u_ws RX6 TX6 17).all goodWord = true := by decide +kernel
  exact fun w hw => TG_in (of_decide_eq_true (List.all_eq_true.mp h1 w hw)) (List.all_eq_true.mp h2 w hw)
theorem tgX7 : ∀ w ∈ u_ws RX7 TX7 12, w ∈ TG := by
  have h1 : (u_ws RX7 TX7 12).all (fun w => decide (w ∈ lw_tbl)) = true := by decide +kernel
  have h2 : (u_ws RX7 TX7 12).all goodWord = true := by decide +kernel
  exact fun w hw => TG_in (of_decide_eq_true (List.all_eq_true.mp h1 w hw)) (List.all_eq_true.mp h2 w hw)
theorem tgX8 : ∀ w ∈ u_ws RX8 TX8 10, w ∈ TG := by
  have h1 : (u_ws RX8 TX8 10).all (fun w => decide (w ∈ lw_tbl)) = true := by decide +kernel
  have h2 : (u_ws RX8 TX8 10).all goodWord = true := by decide +kernel
  exact fun w hw => TG_in (of_decide_eq_true (List.all_eq_true.mp h1 w hw)) (List.all_eq_true.mp h2 w hw)
theorem tgX9 : ∀ w ∈ u_ws RX9 TX9 6, w ∈ TG := by
  have h1 : (u_ws RX9 TX9 6).all (fun w => decide (w ∈ lw_tbl)) = true := by decide +kernel
  have h2 : (u_ws RX9 TX9 6).all goodWord = true := by decide +kernel
  exact fun w hw => TG_in (of_decide_eq_true (List.all_eq_true.mp h1 w hw)) (List.all_eq_true.mp h2 w hw)
theorem tgX11 : ∀ w ∈ u_ws RX11 TX11 12, w ∈ TG := by
  have h1 : (u_ws RX11 TX11 12).all (fun w => decide (w ∈ lw_tbl)) = true := by decide +kernel
  have h2 : (u_ws RX11 TX11 12).all goodWord = true := by decide +kernel
  exact fun w hw => TG_in (of_decide_eq_true (List.all_eq_true.mp h1 w hw)) (List.all_eq_true.mp h2 w hw)
theorem tgX12 : ∀ w ∈ u_ws RX12 TX12 78, w ∈ TG := by
  have h1 : (u_ws RX12 TX12 78).all (fun w => decide (w ∈ lw_tbl)) = true := by decide +kernel
  have h2 : (u_ws RX12 TX12 78).all goodWord = true := by decide +kernel
  exact fun w hw => TG_in (of_decide_eq_true (List.all_eq_true.mp h1 w hw)) (List.all_eq_true.mp h2 w hw)
theorem TG_t {w : Cond} (i : Nat) (h : tables_1[i]? = some w) (hg : goodWord w = true) : w ∈ TG := TG_in (List.mem_append_right _ (List.mem_of_getElem? h)) hg
theorem TG_t1 {w : Cond} (i : Nat) (h : tables_1_1[i]? = some w) (hg : goodWord w = true) : w ∈ TG := TG_in (List.mem_append_right _ (List.mem_append_left _ (List.mem_of_getElem? h))) hg
theorem TG_t2 {w : Cond} (i : Nat) (h : tables_1_2[i]? = some w) (hg : goodWord w = true) : w ∈ TG := TG_in (List.mem_append_right _ (List.mem_append_right _ (List.mem_append_left _ (List.mem_of_getElem? h)))) hg
theorem TG_t3 {w : Cond} (i : Nat) (h : tables_1_3[i]? = some w) (hg : goodWord w = true) : w ∈ TG := TG_in (List.mem_append_right _ (List.mem_append_right _ (List.mem_append_right _ (List.mem_append_left _ (List.mem_of_getElem? h))))) hg
theorem TG_t4 {w : Cond} (i : Nat) (h : tables_1_4[i]? = some w) (hg : goodWord w = true) : w ∈ TG := TG_in (List.mem_append_right _ (List.mem_append_right _ (List.mem_append_right _ (List.mem_append_right _ (List.mem_append_left _ (List.mem_of_getElem? h)))))) hg
theorem TG_t5 {w : Cond} (i : Nat) (h : tables_1_5[i]? = some w) (hg : goodWord w = true) : w ∈ TG := TG_in (List.mem_append_right _ (List.mem_append_right _ (List.mem_append_right _ (List.mem_append_right _ (List.mem_append_right _ (List.mem_append_left _ (List.mem_of_getElem? h))))))) hg
theorem TG_t6 {w : Cond} (i : Nat) (h : tables_1_6[i]? = some w) (hg : goodWord w = true) : w ∈ TG := TG_in (List.mem_append_right _ (List.mem_append_right _ (List.mem_append_right _ (List.mem_append_right _ (List.mem_append_right _ (List.mem_append_right _ (List.mem_append_left _ (List.mem_of_getElem? h)))))))) hg
theorem TG_t7 {w : Cond} (i : Nat) (h : tables_1_7[i]? = some w) (hg : goodWord w = true) : w ∈ TG := TG_in (List.mem_append_right _ (List.mem_append_right _ (List.mem_append_right _ (List.mem_append_right _ (List.mem_append_right _ (List.mem_append_right _ (List.mem_append_right _ (List.mem_append_left _ (List.mem_of_getElem? h))))))))) hg
theorem TG_t8 {w : Cond} (i : Nat) (h : tables_1_8[i]? = some w) (hg : goodWord w = true) : w ∈ TG := TG_in (List.mem_append_right _ (List.mem_append_right _ (List.mem_append_right _ (List.mem_append_right _ (List.mem_append_right _ (List.mem_append_right _ (List.mem_append_right _ (List.mem_append_right _ (List.mem_append_left _ (List.mem_of_getElem? h)))))))))) hg
theorem TG_t9 {w : Cond} (i : Nat) (h : tables_1_9[i]? = some w) (hg : goodWord w = true) : w ∈ TG := TG_in (List.mem_append_right _ (List.mem_append_right _ (List.mem_append_right _ (List.mem_append_right _ (List.mem_append_right _ (List.mem_append_right _ (List.mem_append_right _ (List.mem_append_right _ (List.mem_append_right _ (List.mem_of_getElem? h)))))))))) hg
theorem TG_p {w : Cond} (i : Nat) (h : (k2_sels lw_privs)[i]? = some w) (hg : goodWord w = true) : w ∈ TG := TG_in (List.mem_append_left _ (List.mem_of_getElem? h)) hg
def CMV (μ : MI) (n : Nat) : Prop := Cond.code μ.1 μ.2.1 μ.2.2.1 μ.2.2.2 ∈ TG ∧ Cond.initialized μ.1.cls ∈ TG ∧ (μ.1.cls ≠ "java/lang/invoke/MethodHandle" ∧ μ.1.cls ≠ "java/lang/invoke/VarHandle" ∧ (parseMethodDescriptor μ.1.desc).map (fun d => d.parameters.length) = some n) ∧ μ.2.2.1 ≤ 81 ∧ Cond.instanceMethod μ.1 ∈ TG ∧ Cond.selects μ.1.cls μ.1 μ.1 ∈ TG
def CMS (μ : MI) (n : Nat) : Prop := Cond.code μ.1 μ.2.1 μ.2.2.1 μ.2.2.2 ∈ TG ∧ Cond.initialized μ.1.cls ∈ TG ∧ (μ.1.cls ≠ "java/lang/invoke/MethodHandle" ∧ μ.1.cls ≠ "java/lang/invoke/VarHandle" ∧ (parseMethodDescriptor μ.1.desc).map (fun d => d.parameters.length) = some n) ∧ μ.2.2.1 ≤ 81 ∧ Cond.static μ.1 ∈ TG
theorem CV.of {own : String} {idx : Nat} {μ : MI} {n : Nat} (h : CMV μ n) (hl : Cond.methodLink own idx μ.1 ∈ TG) : CV own idx μ n := ⟨⟨h.1, hl, h.2.1, h.2.2.1, h.2.2.2.1⟩, h.2.2.2.2⟩
theorem CS.of {own : String} {idx : Nat} {μ : MI} {n : Nat} (h : CMS μ n) (hl : Cond.methodLink own idx μ.1 ∈ TG) : CS own idx μ n := ⟨⟨h.1, hl, h.2.1, h.2.2.1, h.2.2.2.1⟩, h.2.2.2.2⟩
section EV4
variable {d : Nat} {μ : MI} {N0 : Nat} {v : Option Value} {N' : Nat} {h' : HP} {pc : Nat} {N : Nat} {ls : List (Nat × Value)} {st : List Value} {h : HP}
theorem e_callVs {sta : List Value} {d1 : Nat} {μ1 : MI} {o ci idx n : Nat} {av : List Value} {w : Value} {h1 : HP} (hM : Mt d1 μ1 (.ref o :: av) N h (some w) N h1) (hd : decode μ.2.1 pc = .ok (.invokevirtual idx, 3)) (hc : CV μ.1.cls idx μ1 n) (hn : av.length = n) (ho : isO N o ci) (hci : RC ci = μ1.1.cls) (hdd : d1 + 1 ≤ d) (hst : (st.map fun v => v.category).sum ≤ 8) (hNN : NN N0 N N') (hsta : sta = av.reverse ++ .ref o :: st)
    {pc2 : Nat} (hp2 : pc + 3 = pc2) (k : Ev d μ N0 v N' h' pc2 N ls (w :: st) h1) : Ev d μ N0 v N' h' pc N ls sta h := by
  subst hp2
  exact e_callV hM hd hc hn ho hci hdd hst hNN hsta rfl k
theorem e_callVn {sta : List Value} {d1 : Nat} {μ1 : MI} {o ci idx n : Nat} {av : List Value} {h1 : HP} (hM : Mt d1 μ1 (.ref o :: av) N h none N h1) (hd : decode μ.2.1 pc = .ok (.invokevirtual idx, 3)) (hc : CV μ.1.cls idx μ1 n) (hn : av.length = n) (ho : isO N o ci) (hci : RC ci = μ1.1.cls) (hdd : d1 + 1 ≤ d) (hst : (st.map fun v => v.category).sum ≤ 8) (hNN : NN N0 N N') (hsta : sta = av.reverse ++ .ref o :: st)
    {pc2 : Nat} (hp2 : pc + 3 = pc2) (k : Ev d μ N0 v N' h' pc2 N ls st h1) : Ev d μ N0 v N' h' pc N ls sta h := by
  subst hp2
  exact e_callV hM hd hc hn ho hci hdd hst hNN hsta rfl k
theorem e_callSs {sta : List Value} {d1 : Nat} {μ1 : MI} {idx n : Nat} {av : List Value} {w : Value} {h1 : HP} (hM : Mt d1 μ1 av N h (some w) N h1) (hd : decode μ.2.1 pc = .ok (.invokestatic idx, 3)) (hc : CS μ.1.cls idx μ1 n) (hn : av.length = n) (hdd : d1 + 1 ≤ d) (hst : (st.map fun v => v.category).sum ≤ 8) (hNN : NN N0 N N') (hsta : sta = av.reverse ++ st)
    {pc2 : Nat} (hp2 : pc + 3 = pc2) (k : Ev d μ N0 v N' h' pc2 N ls (w :: st) h1) : Ev d μ N0 v N' h' pc N ls sta h := by
  subst hp2
  exact e_callS hM hd hc hn hdd hst hNN hsta rfl k
theorem e_callSn {sta : List Value} {d1 : Nat} {μ1 : MI} {idx n : Nat} {av : List Value} {h1 : HP} (hM : Mt d1 μ1 av N h none N h1) (hd : decode μ.2.1 pc = .ok (.invokestatic idx, 3)) (hc : CS μ.1.cls idx μ1 n) (hn : av.length = n) (hdd : d1 + 1 ≤ d) (hst : (st.map fun v => v.category).sum ≤ 8) (hNN : NN N0 N N') (hsta : sta = av.reverse ++ st)
    {pc2 : Nat} (hp2 : pc + 3 = pc2) (k : Ev d μ N0 v N' h' pc2 N ls st h1) : Ev d μ N0 v N' h' pc N ls sta h := by
  subst hp2
  exact e_callS hM hd hc hn hdd hst hNN hsta rfl k
end EV4
