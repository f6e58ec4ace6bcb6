/-! A word's key is a word of the rules just when its letters are -/
theorem cmp_e {x y : Int64} : lg_cmp x y = 0 ↔ x = y := by
  unfold lg_cmp
  by_cases z : x > y
  · rw [if_pos z]
    refine ⟨fun q => absurd q (by decide), fun q => ?_⟩
    subst q
    exact absurd z Int64.lt_irrefl
  · rw [if_neg z]
    by_cases w : x = y
    · rw [if_pos w]; exact ⟨fun _ => w, fun _ => rfl⟩
    · rw [if_neg w]; exact ⟨fun q => absurd q (by decide), fun q => absurd q w⟩
theorem kwl_e (key : Int64) : ∀ e k w, (∃ j, k ≤ j ∧ j < k + e ∧ keyL.getD j 0 = key ∧ kwl key k e w = 1000 + j) ∨ (kwl key k e w = w ∧ ∀ j, k ≤ j → j < k + e → ¬ keyL.getD j 0 = key) := by
  intro e
  induction e with
  | zero => intro k w; exact Or.inr ⟨rfl, fun j h1 h2 => by omega⟩
  | succ e ih =>
    intro k w
    show (∃ j, k ≤ j ∧ j < k + (e + 1) ∧ keyL.getD j 0 = key ∧ kwl key (k + 1) e (if lg_cmp (keyL.getD k 0) key = 0 then 1000 + k else w) = 1000 + j) ∨ (kwl key (k + 1) e (if lg_cmp (keyL.getD k 0) key = 0 then 1000 + k else w) = w ∧ _)
    rcases ih (k + 1) (if lg_cmp (keyL.getD k 0) key = 0 then 1000 + k else w) with ⟨j, j1, j2, j3, j4⟩ | ⟨j1, j2⟩
    · exact Or.inl ⟨j, by omega, by omega, j3, j4⟩
    · by_cases z : lg_cmp (keyL.getD k 0) key = 0
      · rw [if_pos z] at j1 ⊢
        exact Or.inl ⟨k, Nat.le_refl _, by omega, cmp_e.mp z, j1⟩
      · rw [if_neg z] at j1 ⊢
        refine Or.inr ⟨j1, fun j h1 h2 => ?_⟩
        by_cases y : j = k
        · subst y; exact fun q => z (cmp_e.mpr q)
        · exact j2 j (by omega) (by omega)
theorem key_l {l : List Nat} (h1 : ∀ x ∈ l, 1 ≤ x ∧ x ≤ 26) (h2 : l.length ≤ 8) {j : Nat} (hj : j < 37) : keyL.getD j 0 = Int64.ofNat (kf 32 l) ↔ l = kwd.getD j [] := by
  obtain ⟨e1, e2, e3⟩ := kwd_e j hj
  rw [e1]
  constructor
  · intro e
    have e := congrArg Int64.toInt e
    rw [Int64.toInt_ofNat_of_lt (kf_lt (by omega) (by omega) e3 e2), Int64.toInt_ofNat_of_lt (kf_lt (by omega) (by omega) h1 h2)] at e
    exact (kf_inj (b := 32) (by omega) e3 h1 (Int.ofNat_inj.mp e)).symm
  · intro e; rw [e]
/-- the word object of a word token -/
theorem kw_w {l : List Nat} (h1 : ∀ x ∈ l, 1 ≤ x ∧ x ≤ 26) (h2 : l.length ≤ 8) : (∃ j, j < 37 ∧ l = kwd.getD j [] ∧ kwl (Int64.ofNat (kf 32 l)) 0 37 0 = 1000 + j) ∨ (kwl (Int64.ofNat (kf 32 l)) 0 37 0 = 0 ∧ ∀ j, j < 37 → ¬ l = kwd.getD j []) := by
  rcases kwl_e (Int64.ofNat (kf 32 l)) 37 0 0 with ⟨j, j1, j2, j3, j4⟩ | ⟨j1, j2⟩
  · exact Or.inl ⟨j, by omega, (key_l h1 h2 (by omega)).mp j3, j4⟩
  · exact Or.inr ⟨j1, fun j hj e => j2 j (by omega) (by omega) ((key_l h1 h2 hj).mpr e)⟩
