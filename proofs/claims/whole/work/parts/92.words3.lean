/-! The reference's words by their letters -/
def w27 (j : Nat) : Int64 := Int64.ofNat (kf 27 (kwd.getD j []))
theorem word_l {l : List Nat} (h1 : ∀ x ∈ l, 1 ≤ x ∧ x ≤ 26) (h2 : l.length ≤ 8) {j : Nat} (hj : j < 37) : Int64.ofNat (kf 27 l) = w27 j ↔ l = kwd.getD j [] := by
  obtain ⟨e1, e2, e3⟩ := kwd_e j hj
  unfold w27
  constructor
  · intro e
    have e := congrArg Int64.toInt e
    rw [Int64.toInt_ofNat_of_lt (kf_lt (by omega) (by omega) e3 e2), Int64.toInt_ofNat_of_lt (kf_lt (by omega) (by omega) h1 h2)] at e
    exact kf_inj (b := 27) (by omega) h1 e3 (Int.ofNat_inj.mp e)
  · intro e; rw [e]
section WORDS
variable {L B P : Nat} {s t : HS}
/-- the token is word j, in both -/
theorem TK.word (T : TK L B P s t) {j : Nat} (hj : j < 37) : (s.2.2.2.2.2.2 = 1000 + j ↔ f_X12_isWord (w27 j) t = 1) ∧ (f_X12_isWord (w27 j) t = 0 ∨ f_X12_isWord (w27 j) t = 1) ∧ wob s.2.2.2.2.2.2 = true := by
  obtain ⟨-, -, -, -, -, -, K⟩ := T
  have no : ¬ t.1 101 6 = 1 → s.2.2.2.2.2.2 = 0 → (s.2.2.2.2.2.2 = 1000 + j ↔ f_X12_isWord (w27 j) t = 1) ∧ (f_X12_isWord (w27 j) t = 0 ∨ f_X12_isWord (w27 j) t = 1) ∧ wob s.2.2.2.2.2.2 = true := fun h1 h2 => by
    have e : f_X12_isWord (w27 j) t = 0 := by unfold f_X12_isWord; rw [if_neg h1]
    rw [h2, e]
    exact ⟨⟨fun q => by omega, fun q => absurd q (by decide)⟩, Or.inl rfl, by decide⟩
  rcases K with ⟨k1, k2, -⟩ | ⟨k1, l, l1, l2, l3, l4, l5⟩ | ⟨k1, k2, -⟩ | ⟨k1, k2, -⟩ | ⟨k1, k2⟩
  · exact no (by rw [k1]; decide) k2
  · have e : f_X12_isWord (w27 j) t = if l = kwd.getD j [] then 1 else 0 := by
      unfold f_X12_isWord
      rw [if_pos k1, l4]
      by_cases z : l = kwd.getD j []
      · rw [if_pos z, if_pos (cmp_e.mpr ((word_l l1 l2 hj).mpr z))]
      · rw [if_neg z, if_neg (fun q => z ((word_l l1 l2 hj).mp (cmp_e.mp q)))]
    rw [l5, l3, e]
    rcases kw_w l1 l2 with ⟨i, i1, i2, i3⟩ | ⟨i1, i2⟩
    · rw [i3]
      refine ⟨⟨fun q => ?_, fun q => ?_⟩, ?_, ?_⟩
      · have : i = j := by omega
        subst this
        rw [if_pos i2]
      · by_cases z : l = kwd.getD j []
        · have := kwd_i i i1 j hj (i2.symm.trans z); omega
        · rw [if_neg z] at q; exact absurd q (by decide)
      · by_cases z : l = kwd.getD j []
        · rw [if_pos z]; exact Or.inr rfl
        · rw [if_neg z]; exact Or.inl rfl
      · unfold wob; simp; omega
    · rw [i1, if_neg (i2 j hj)]
      exact ⟨⟨fun q => by omega, fun q => absurd q (by decide)⟩, Or.inl rfl, by decide⟩
  · exact no (by rw [k1]; decide) k2
  · exact no (by rw [k1]; decide) k2
  · exact no (by rw [k1]; decide) k2
end WORDS
