/-! The draft, in both: what stands of it line by line -/
def PLx (p r c h n : Nat) (s t : HS) : Prop := PLsc p r s t ∧ (∀ i, i < c → EqB (s.1 (Rf p 11) i) (t.1 107 (6 * r + i)) 0 200) ∧ (∀ i, i < h → PLt p r i s t) ∧ (∀ i, i < n → PLb p r c h i s t) ∧ (∀ m, m < 4 → EqB (s.1 (Rf p 7) m) (t.1 119 (4 * r + m)) 0 10)
def CNT (p r c h n : Nat) (s t : HS) : Prop := (c ≤ 6 ∧ h ≤ 5 ∧ n ≤ 6) ∧ (s.1 p 9 = I c ∧ t.1 103 (10 * r) = I c) ∧ (s.1 p 12 = I h ∧ t.1 103 (10 * r + 1) = I h) ∧ (s.1 p 14 = I n ∧ t.1 103 (10 * r + 2) = I n)
section DRAFT
variable {p r c h n : Nat} {s t s' t' : HS}
theorem PL.x (P : PL p r c h n s t) : okX4 p = true ∧ CNT p r c h n s t ∧ PLx p r c h n s t := ⟨P.1, ⟨P.2.1, P.2.2.1, P.2.2.2.1, P.2.2.2.2.1⟩, P.2.2.2.2.2⟩
theorem PL.of (hp : okX4 p = true) (C : CNT p r c h n s t) (X : PLx p r c h n s t) : PL p r c h n s t := ⟨hp, C.1, C.2.1, C.2.2.1, C.2.2.2, X⟩
theorem wbits_cg {w w' : Nat → Int32} : ∀ {m : Nat}, (∀ k, k < m → w' k = w k) → wbits w' m = wbits w m := by
  intro m
  induction m with
  | zero => intro _; rfl
  | succ m ih =>
    intro h
    show wbits w' m ||| ((1 : Int32) <<< (w' m &&& 31)) = wbits w m ||| ((1 : Int32) <<< (w m &&& 31))
    rw [ih (fun k hk => h k (by omega)), h m (by omega)]
theorem PLx.cg (hp : okX4 p = true) (hn : c ≤ 6 ∧ h ≤ 5 ∧ n ≤ 6) (X : PLx p r c h n s t) (e0 : ∀ k, k ≤ 6 → s'.1 p k = s.1 p k) (e1 : ∀ k, k < 4 → s'.1 (p + 1) k = s.1 (p + 1) k) (e6 : ∀ i, i < c → s'.1 (p + 6) i = s.1 (p + 6) i) (e9 : ∀ i, i < h → ∀ k, s'.1 (p + (9 + i)) k = s.1 (p + (9 + i)) k) (e14 : ∀ i, i < n → ∀ k, s'.1 (p + (14 + 2 * i)) k = s.1 (p + (14 + 2 * i)) k ∧ s'.1 (p + (15 + 2 * i)) k = s.1 (p + (15 + 2 * i)) k)
    (m0 : ∀ k, 3 ≤ k → k < 10 → t'.1 103 (10 * r + k) = t.1 103 (10 * r + k)) (m4 : ∀ i, i < c → t'.1 107 (6 * r + i) = t.1 107 (6 * r + i)) (m5 : ∀ i, i < h → ∀ o, 108 ≤ o → o ≤ 112 → t'.1 o (5 * r + i) = t.1 o (5 * r + i)) (m10 : ∀ i, i < n → ∀ o, (113 ≤ o ∧ o ≤ 116) ∨ o = 118 → t'.1 o (6 * r + i) = t.1 o (6 * r + i)) (m14 : ∀ i, i < n → ∀ k, k < 3 → t'.1 117 (3 * (6 * r + i) + k) = t.1 117 (3 * (6 * r + i) + k)) (m16 : ∀ k, k < 4 → t'.1 119 (4 * r + k) = t.1 119 (4 * r + k)) : PLx p r c h n s' t' := by
  obtain ⟨a6, a7, a8, a9, a10⟩ := X
  refine ⟨?_, ?_, ?_, ?_, ?_⟩
  · unfold PLsc
    rw [e0 0 (by omega), e0 1 (by omega), e0 2 (by omega), e0 3 (by omega), e0 4 (by omega), e0 5 (by omega), e0 6 (by omega), m0 3 (by omega) (by omega), m0 4 (by omega) (by omega), m0 5 (by omega) (by omega), m0 6 (by omega) (by omega), m0 7 (by omega) (by omega), m0 8 (by omega) (by omega), m0 9 (by omega) (by omega)]
    exact a6
  · intro i hi
    have := a7 i hi
    rw [yS_e hp] at this ⊢
    rw [e6 i hi, m4 i hi]; exact this
  · intro i hi
    have := a8 i hi
    unfold PLt at this ⊢
    rw [tS_e hp (by omega)] at this ⊢
    rw [e9 i hi, e9 i hi, e9 i hi, e9 i hi, e9 i hi, m5 i hi 108 (by omega) (by omega), m5 i hi 109 (by omega) (by omega), m5 i hi 110 (by omega) (by omega), m5 i hi 111 (by omega) (by omega), m5 i hi 112 (by omega) (by omega)]; exact this
  · intro i hi
    have := a9 i hi
    unfold PLb at this ⊢
    rw [wS_e hp (by omega), bS_e hp (by omega)] at this ⊢
    obtain ⟨b1, b2, b3, b4, m, g1, g2, g3, g4, g5, g6, g7⟩ := this
    have w : ∀ k, k < m → t'.1 117 (3 * (6 * r + i) + k) = t.1 117 (3 * (6 * r + i) + k) := fun k hk => m14 i hi k (by omega)
    refine ⟨by rw [(e14 i hi 1).1, m10 i hi 113 (by omega)]; exact b1, by rw [(e14 i hi 2).1, m10 i hi 114 (by omega)]; exact b2, by rw [(e14 i hi 3).1, m10 i hi 115 (by omega)]; exact b3, by rw [(e14 i hi 4).1, m10 i hi 116 (by omega)]; exact b4, m, g1, g2, by rw [(e14 i hi 6).1]; exact g3, by rw [m10 i hi 118 (by omega)]; exact g4, fun k hk => by rw [(e14 i hi k).2, w k hk]; exact g5 k hk, fun k hk k' hk' q => ?_, ?_⟩
    · rw [w k hk, w k' hk'] at q; exact g6 k hk k' hk' q
    · rw [(e14 i hi 7).1, g7]; exact (wbits_cg w).symm
  · intro m hm
    have := a10 m hm
    rw [lS_e hp] at this ⊢
    rw [e1 m hm, m16 m hm]; exact this
theorem EqB.mono {a b : Int32} {lo hi hi' : Int} (e : EqB a b lo hi) (q : hi ≤ hi') : EqB a b lo hi' := ⟨e.1, e.2.1, by have := e.2.2; omega⟩
theorem PLb.mono {c' h' i : Nat} (b : PLb p r c h i s t) (hc : c ≤ c') (hh : h ≤ h') : PLb p r c' h' i s t := by
  obtain ⟨b1, b2, b3, b4, m, g1, g2, g3, g4, g5, g6⟩ := b
  exact ⟨b1, b2.mono (by omega), b3, b4, m, g1, g2, g3, g4, fun k hk => (g5 k hk).mono (by omega), g6⟩
theorem NMS.cg (hp : okX4 p = true) (hn : c ≤ 6 ∧ h ≤ 5 ∧ n ≤ 6) (N : NMS p r c h n s t) (e5 : ∀ i, i < c → s'.2.1 (p + 5) i = s.2.1 (p + 5) i) (e9 : ∀ i, i < h → s'.2.1 (p + (9 + i)) 0 = s.2.1 (p + (9 + i)) 0) (e14 : ∀ i, i < n → s'.2.1 (p + (14 + 2 * i)) 0 = s.2.1 (p + (14 + 2 * i)) 0) (m4 : ∀ i, i < c → t'.2.1 104 (6 * r + i) = t.2.1 104 (6 * r + i)) (m5 : ∀ i, i < h → t'.2.1 105 (5 * r + i) = t.2.1 105 (5 * r + i)) (m6 : ∀ i, i < n → t'.2.1 106 (6 * r + i) = t.2.1 106 (6 * r + i)) : NMS p r c h n s' t' := by
  obtain ⟨n1, n2, n3⟩ := N
  refine ⟨fun i hi => ?_, fun i hi => ?_, fun i hi => ?_⟩
  · have := n1 i hi
    rw [cS_e hp] at this ⊢
    rw [e5 i hi, m4 i hi]; exact this
  · have := n2 i hi
    rw [tS_e hp (by omega)] at this ⊢
    rw [e9 i hi, m5 i hi]; exact this
  · have := n3 i hi
    rw [bS_e hp (by omega)] at this ⊢
    rw [e14 i hi, m6 i hi]; exact this
def DR (p c h n : Nat) (s t : HS) : Prop := CNT p 1 c h n s t ∧ PLx p 1 c h n s t ∧ NMS p 1 c h n s t
theorem p36 (hp : okX4 p = true) : ∀ k, k < 26 → p + k ≠ 36 ∧ p + k ≠ 37 ∧ p + k ≠ 0 ∧ p + k ≠ 69 := by rcases okX4_c hp with rfl | rfl <;> decide
/-- a new name, of both -/
theorem r_new (hp : okX4 p = true) {L B P : Nat} (T : TK L B P s t) (C : CNT p 1 c h n s t) (N : NMS p 1 c h n s t) : (NMk (s.2.1 36 5) (t.2.1 101 7) ∧ f_X5_takeNewName p s = (bnd (f_X8_step s) fun s15 => some (s.2.1 36 5, s15)) ∧ f_X12_isNew t = some (1, t)) ∨ (∃ k s' t', f_X5_takeNewName p s = some (k, s') ∧ f_X12_isNew t = some (0, t') ∧ BD s' t' ∧ Fr LF1 s s' ∧ Fr LF2 t t') := by
  obtain ⟨c0, c1, c2, c3⟩ := C
  obtain ⟨n1, n2, n3⟩ := N
  unfold f_X5_takeNewName f_X12_isNew
  have bad : ∀ v : Int32, 1 ≤ v.toInt ∧ v.toInt ≤ 5 → ∃ s' t', (bnd (f_X8_fail v s) fun s19 => some (s.2.1 36 5, s19)) = some (s.2.1 36 5, s') ∧ f_X12_fails v t = some (0, t') ∧ BD s' t' ∧ Fr LF1 s s' ∧ Fr LF2 t t' := fun v hv => by
    obtain ⟨s', t', q1, q2, q3, q4, q5⟩ := T.fail hv
    exact ⟨s', t', by rw [q1, bnd_t], q2, q3, q4, q5⟩
  rcases T.name with ⟨e1, e2, e3, e4⟩ | ⟨e1, e2⟩
  · rw [ltb_t, e1, bnd_t, if_neg (by decide), if_pos e2]
    obtain ⟨v1, a1, a2, a3⟩ := r_coach hp c0.1 c1.1 c1.2 n1 e4 rfl
    rw [a1, a2, bnd_t, bnd_t]
    by_cases z1 : 0 ≤ v1
    · obtain ⟨s', t', q1, q2, q3, q4, q5⟩ := bad 3 (by decide)
      rw [if_pos z1, if_pos z1, q1, q2, bnd2_t, if_pos (Eq.refl _)]
      exact Or.inr ⟨_, s', t', rfl, rfl, q3, q4, q5⟩
    · obtain ⟨v2, b1, b2, b3⟩ := r_thing hp (Nat.le_refl 1) c0.2.1 c2.1 c2.2 n2 e4 rfl
      have b2 : f_X12_thingNamed 1 t = some v2 := b2
      rw [if_neg z1, if_neg z1, b1, b2, bnd_t, bnd_t]
      by_cases z2 : 0 ≤ v2
      · obtain ⟨s', t', q1, q2, q3, q4, q5⟩ := bad 3 (by decide)
        rw [if_pos z2, if_pos z2, q1, q2, bnd2_t, if_pos (Eq.refl _)]
        exact Or.inr ⟨_, s', t', rfl, rfl, q3, q4, q5⟩
      · obtain ⟨v3, d1, d2, d3⟩ := r_buyer hp (Nat.le_refl 1) c0.2.2 c3.1 c3.2 n3 e4 rfl
        have d2 : f_X12_buyerNamed 1 t = some v3 := d2
        rw [if_neg z2, if_neg z2, d1, d2, bnd_t, bnd_t]
        by_cases z3 : v3 < 0
        · rw [if_pos z3, if_pos z3]
          exact Or.inl ⟨e4, rfl, rfl⟩
        · obtain ⟨s', t', q1, q2, q3, q4, q5⟩ := bad 3 (by decide)
          rw [if_neg z3, if_neg z3, q1, q2, bnd2_t, if_pos (Eq.refl _)]
          exact Or.inr ⟨_, s', t', rfl, rfl, q3, q4, q5⟩
  · obtain ⟨s', t', q1, q2, q3, q4, q5⟩ := bad 1 (by decide)
    rw [ltb_t, e1, bnd_t, if_pos (Eq.refl _), if_neg (by rw [e2]; decide), q1, q2, bnd2_t, show isb 0 = true from by decide, gd_t]
    exact Or.inr ⟨_, s', t', rfl, rfl, q3, q4, q5⟩
end DRAFT
