/-! Numbers, names, one of three words, of both -/
section TAKE2
variable {L B P : Nat} {s t : HS}
theorem TK.of {s' t' : HS} (T : TK L B P s t) (h1 : s'.1 36 = s.1 36) (h2 : s'.1 37 = s.1 37) (h3 : s'.2.1 36 5 = s.2.1 36 5) (h4 : s'.2.2.2.2.2.2 = s.2.2.2.2.2.2) (g1 : ∀ k, k < 9 → t'.1 101 k = t.1 101 k) (g2 : t'.1 102 = t.1 102) (g3 : t'.2.1 101 7 = t.2.1 101 7) : TK L B P s' t' := by
  unfold TK CH KD at T ⊢
  rw [h1, h2, h3, h4, g2, g3, g1 3 (by omega), g1 4 (by omega), g1 5 (by omega), g1 6 (by omega), g1 8 (by omega)]
  exact T
theorem sL_n (s : HS) {o k o' k' : Nat} (x : Int64) (h : o' ≠ o) : (sL s o k x).2.1 o' k' = s.2.1 o' k' := by
  show up2 s.2.1 o k x o' k' = _
  unfold up2
  rw [if_neg h]
theorem TK.cI (T : TK L B P s t) {o k : Nat} {x : Int32} (h : o ≠ 36 ∧ o ≠ 37) : TK L B P (sI s o k x) t := T.of (sI_n _ _ _ (Ne.symm h.1)) (sI_n _ _ _ (Ne.symm h.2)) rfl rfl (fun _ _ => rfl) rfl rfl
theorem TK.cL (T : TK L B P s t) {o k : Nat} {x : Int64} (h : o ≠ 36) : TK L B P (sL s o k x) t := T.of rfl rfl (sL_n _ _ (Ne.symm h)) rfl (fun _ _ => rfl) rfl rfl
theorem TK.mI (T : TK L B P s t) {o k : Nat} {x : Int32} (h : (o ≠ 101 ∨ 9 ≤ k) ∧ o ≠ 102) : TK L B P s (sI t o k x) := by
  refine T.of rfl rfl rfl rfl (fun j hj => ?_) (sI_n _ _ _ (Ne.symm h.2)) rfl
  by_cases z : o = 101
  · subst z
    rw [sI_s, if_neg (by omega)]
  · rw [sI_n _ _ _ (Ne.symm z)]
theorem TK.mL (T : TK L B P s t) {o k : Nat} {x : Int64} (h : o ≠ 101) : TK L B P s (sL t o k x) := T.of rfl rfl rfl rfl (fun _ _ => rfl) rfl (sL_n _ _ (Ne.symm h))
theorem TK.numv (T : TK L B P s t) (h : t.1 101 6 = 2) : ∃ N, N < 10000 ∧ s.1 36 6 = I N ∧ t.1 101 8 = I N := by
  obtain ⟨-, -, -, -, -, -, K⟩ := T
  rcases K with ⟨k1, -⟩ | ⟨k1, -⟩ | ⟨k1, -, k3⟩ | ⟨k1, -⟩ | ⟨k1, -⟩
  · rw [k1] at h; exact absurd h (by decide)
  · rw [k1] at h; exact absurd h (by decide)
  · exact k3
  · rw [k1] at h; exact absurd h (by decide)
  · rw [k1] at h; exact absurd h (by decide)
theorem TK.kind (T : TK L B P s t) : s.1 36 4 = t.1 101 6 := T.2.2.2.2.2.1
def NumO (L P : Nat) (lo hi : Int32) (s t : HS) (s' t' : HS) (v : Int32) (B' P' : Nat) : Prop := TK L B' P' s' t' ∧ P ≤ B' ∧ (t'.1 101 44 = v ∧ lo.toInt ≤ v.toInt ∧ v.toInt ≤ hi.toInt ∧ 0 ≤ v.toInt) ∧ Fr LF1 s s' ∧ Fr LF2 t t'
theorem TK.tnum (T : TK L B P s t) (lo hi : Int32) : (∃ B' P' s' t' v, f_X8_takeNumber lo hi s = some (v, s') ∧ f_X12_needsNumber lo hi t = some (1, t') ∧ NumO L P lo hi s t s' t' v B' P') ∨ (∃ s' t', f_X8_takeNumber lo hi s = some (0, s') ∧ f_X12_needsNumber lo hi t = some (0, t') ∧ BD s' t' ∧ Fr LF1 s s' ∧ Fr LF2 t t') := by
  have no : ∀ (v : Int32), 1 ≤ v.toInt ∧ v.toInt ≤ 5 → f_X8_takeNumber lo hi s = (bnd (f_X8_fail v s) fun s' => some (0, s')) → f_X12_needsNumber lo hi t = (bnd2 (f_X12_fails v t) fun y s' => gd (isb y) (some (y, s'))) → (∃ s' t', f_X8_takeNumber lo hi s = some (0, s') ∧ f_X12_needsNumber lo hi t = some (0, t') ∧ BD s' t' ∧ Fr LF1 s s' ∧ Fr LF2 t t') := fun v hv c m => by
    obtain ⟨s', t', q1, q2, q3, q4, q5⟩ := T.fail hv
    rw [c, m, q1, q2, bnd_t, bnd2_t, show isb 0 = true from by decide, gd_t]
    exact ⟨s', t', rfl, rfl, q3, q4, q5⟩
  by_cases z : t.1 101 6 = 2
  · obtain ⟨N, N1, N2, N3⟩ := T.numv z
    by_cases z1 : I N < lo
    · refine Or.inr (no 4 (by decide) ?_ ?_)
      · unfold f_X8_takeNumber
        rw [T.kind, ltb_t, if_pos z, N2, if_pos z1]
      · unfold f_X12_needsNumber f_X12_within
        rw [if_pos z, N3, if_pos z1, if_pos (Eq.refl _)]
    by_cases z2 : I N ≤ hi
    · have T1 : TK L B P s (sI t 101 44 (I N)) := T.mI ⟨Or.inr (by omega), by omega⟩
      obtain ⟨B', P', s', t', q1, q2, q3, q4, q5, q6⟩ := T1.next
      refine Or.inl ⟨B', P', s', t', I N, ?_, ?_, q3, q4, ⟨?_, ?_, ?_, by rw [I_toInt (by omega)]; omega⟩, q5.mono (by decide), (fr_sI (by decide)).trans (q6.mono (by decide))⟩
      · unfold f_X8_takeNumber
        rw [T.kind, ltb_t, if_pos z, N2, if_neg z1, if_pos z2, q1, bnd_t]
      · unfold f_X12_needsNumber f_X12_within
        rw [if_pos z, N3, if_neg z1, if_neg (fun q => Int32.not_lt.mpr z2 q), if_neg (by decide), ltb_t, q2, bnd_t]
      · rw [q6.1 101 44 (by decide), sI_k]
      · rw [Int32.lt_iff_toInt_lt] at z1; omega
      · rw [Int32.le_iff_toInt_le] at z2; exact z2
    · refine Or.inr (no 4 (by decide) ?_ ?_)
      · unfold f_X8_takeNumber
        rw [T.kind, ltb_t, if_pos z, N2, if_neg z1, if_neg z2]
      · unfold f_X12_needsNumber f_X12_within
        rw [if_pos z, N3, if_neg z1, if_pos (Int32.not_le.mp z2), if_pos (Eq.refl _)]
  · refine Or.inr (no 1 (by decide) ?_ ?_)
    · unfold f_X8_takeNumber
      rw [T.kind, ltb_t, if_neg z]
    · unfold f_X12_needsNumber
      rw [if_neg z]
theorem TK.tboth (T : TK L B P s t) {j : Nat} (hj : j < 37) (lo hi : Int32) : ∃ s1, f_X8_take (1000 + j) s = some s1 ∧ Fr LF1 s s1 ∧ ((∃ B' P' s' t' v, f_X8_takeNumber lo hi s1 = some (v, s') ∧ f_X12_needsBoth (w27 j) lo hi t = some (1, t') ∧ NumO L P lo hi s t s' t' v B' P') ∨ (∃ s' t', f_X8_takeNumber lo hi s1 = some (0, s') ∧ f_X12_needsBoth (w27 j) lo hi t = some (0, t') ∧ BD s' t' ∧ Fr LF1 s s' ∧ Fr LF2 t t')) := by
  unfold f_X12_needsBoth
  rcases T.tword hj with ⟨B1, P1, s1, t1, q1, q2, q3, q4, q5, q6⟩ | ⟨s1, t1, q1, q2, q3, q4, q5⟩
  · refine ⟨s1, q1, q5, ?_⟩
    have := q3.2.1.1
    rw [q2, bnd2_t, if_neg (by decide)]
    rcases q3.tnum lo hi with ⟨B', P', s', t', v, p1, p2, p3, p4, p5, p6, p7⟩ | ⟨s', t', p1, p2, p3, p4, p5⟩
    · rw [p2, bnd2_t, if_neg (by decide)]
      exact Or.inl ⟨B', P', s', t', v, p1, rfl, p3, by omega, p5, q5.trans p6, q6.trans p7⟩
    · rw [p2, bnd2_t, if_pos (Eq.refl _)]
      exact Or.inr ⟨s', t', p1, rfl, p3, q5.trans p4, q6.trans p5⟩
  · refine ⟨s1, q1, q4, Or.inr ⟨s1, t1, q3.1.num _ _, ?_, q3, q4, q5⟩⟩
    rw [q2, bnd2_t, if_pos (Eq.refl _)]
theorem TK.tone (T : TK L B P s t) {a b c : Nat} (ha : a < 37) (hb : b < 37) (hc : c < 37) : (∃ i, i < 3 ∧ (f_X8_takeOneOf (1000 + a) (1000 + b) (1000 + c) s = bnd (f_X8_step s) fun s' => some (I i, s')) ∧ (i = 0 → f_X12_isWord (w27 a) t = 1) ∧ (i = 1 → f_X12_isWord (w27 a) t = 0 ∧ f_X12_isWord (w27 b) t = 1) ∧ (i = 2 → f_X12_isWord (w27 a) t = 0 ∧ f_X12_isWord (w27 b) t = 0 ∧ f_X12_isWord (w27 c) t = 1)) ∨ ((f_X8_takeOneOf (1000 + a) (1000 + b) (1000 + c) s = bnd (f_X8_fail 1 s) fun s' => some (2, s')) ∧ f_X12_isWord (w27 a) t = 0 ∧ f_X12_isWord (w27 b) t = 0 ∧ f_X12_isWord (w27 c) t = 0) := by
  obtain ⟨a1, a2, a3⟩ := T.word ha
  obtain ⟨b1, b2, -⟩ := T.word hb
  obtain ⟨c1, c2, -⟩ := T.word hc
  have na : ¬ s.2.2.2.2.2.2 = 1000 + a → f_X12_isWord (w27 a) t = 0 := fun q => a2.resolve_right (fun z => q (a1.mpr z))
  have nb : ¬ s.2.2.2.2.2.2 = 1000 + b → f_X12_isWord (w27 b) t = 0 := fun q => b2.resolve_right (fun z => q (b1.mpr z))
  have nc : ¬ s.2.2.2.2.2.2 = 1000 + c → f_X12_isWord (w27 c) t = 0 := fun q => c2.resolve_right (fun z => q (c1.mpr z))
  unfold f_X8_takeOneOf f_X8_takeOneOf_j25 f_X8_take
  rw [a3, gd_t, gd_t, gd_t, gd_t, gd_t]
  have dis : ∀ (x : Option HS) (y : Int32), (bnd (bnd x fun s6 => some s6) fun s12 => some (y, s12)) = bnd x fun s' => some (y, s') := fun x y => by
    cases x with
    | none => rfl
    | some v => rw [bnd_t]
  by_cases za : s.2.2.2.2.2.2 = 1000 + a
  · refine Or.inl ⟨0, by omega, ?_, fun _ => a1.mp za, fun q => absurd q (by omega), fun q => absurd q (by omega)⟩
    rw [if_pos za, if_pos (Eq.refl _), if_pos za, dis, I_e0]
  rw [if_neg za]
  by_cases zb : s.2.2.2.2.2.2 = 1000 + b
  · refine Or.inl ⟨1, by omega, ?_, fun q => absurd q (by omega), fun _ => ⟨na za, b1.mp zb⟩, fun q => absurd q (by omega)⟩
    rw [if_pos zb, if_neg (by decide), if_pos (Eq.refl _), if_pos zb, dis]
    exact Eq.refl _
  rw [if_neg zb, if_neg (by decide), if_neg (by decide)]
  by_cases zc : s.2.2.2.2.2.2 = 1000 + c
  · refine Or.inl ⟨2, by omega, ?_, fun q => absurd q (by omega), fun q => absurd q (by omega), fun _ => ⟨na za, nb zb, c1.mp zc⟩⟩
    rw [if_pos zc, dis]
    exact Eq.refl _
  · refine Or.inr ⟨?_, na za, nb zb, nc zc⟩
    rw [if_neg zc, dis]
end TAKE2
/-! A name among those told -/
theorem find2 (F G : Nat → Int32 → Option Int32) (A : Nat → Prop) [DecidablePred A] (n r : Nat) (hn : n < 1000) (hF : ∀ k, k < n → ∀ f, F (f + 1) (I k) = if A k then some (I k) else F f (I (k + 1))) (hG : ∀ k, k < n → ∀ f, G (f + 1) (I (r + k)) = if A k then some (I k) else G f (I (r + (k + 1)))) (eF : ∀ f, F (f + 1) (I n) = some (-1)) (eG : ∀ f, G (f + 1) (I (r + n)) = some (-1)) : ∃ v, F FU 0 = some v ∧ G FU (I r) = some v ∧ (v = -1 ∨ ∃ i, i < n ∧ v = I i) := by
  have key : ∀ d k, k + d = n → ∃ v, (∀ f, d < f → F f (I k) = some v) ∧ (∀ f, d < f → G f (I (r + k)) = some v) ∧ (v = -1 ∨ ∃ i, i < n ∧ v = I i) := by
    intro d
    induction d with
    | zero =>
      intro k hk
      have hk : k = n := by omega
      subst hk
      refine ⟨-1, fun f hf => ?_, fun f hf => ?_, Or.inl rfl⟩
      · obtain ⟨f', rfl⟩ : ∃ f', f = f' + 1 := ⟨f - 1, by omega⟩
        exact eF f'
      · obtain ⟨f', rfl⟩ : ∃ f', f = f' + 1 := ⟨f - 1, by omega⟩
        exact eG f'
    | succ d ih =>
      intro k hk
      by_cases z : A k
      · refine ⟨I k, fun f hf => ?_, fun f hf => ?_, Or.inr ⟨k, by omega, rfl⟩⟩
        · obtain ⟨f', rfl⟩ : ∃ f', f = f' + 1 := ⟨f - 1, by omega⟩
          rw [hF k (by omega), if_pos z]
        · obtain ⟨f', rfl⟩ : ∃ f', f = f' + 1 := ⟨f - 1, by omega⟩
          rw [hG k (by omega), if_pos z]
      · obtain ⟨v, v1, v2, v3⟩ := ih (k + 1) (by omega)
        refine ⟨v, fun f hf => ?_, fun f hf => ?_, v3⟩
        · obtain ⟨f', rfl⟩ : ∃ f', f = f' + 1 := ⟨f - 1, by omega⟩
          rw [hF k (by omega), if_neg z]; exact v1 f' (by omega)
        · obtain ⟨f', rfl⟩ : ∃ f', f = f' + 1 := ⟨f - 1, by omega⟩
          rw [hG k (by omega), if_neg z]; exact v2 f' (by omega)
  obtain ⟨v, v1, v2, v3⟩ := key n 0 (by omega)
  refine ⟨v, ?_, ?_, v3⟩
  · have := v1 FU (FU_lt (by omega)); rw [I_e0] at this; exact this
  · exact v2 FU (FU_lt (by omega))
theorem find1 (F : Nat → Int32 → Option Int32) (A : Nat → Prop) [DecidablePred A] (n : Nat) (hn : n < 1000) (hF : ∀ k, k < n → ∀ f, F (f + 1) (I k) = if A k then some (I k) else F f (I (k + 1))) (eF : ∀ f, F (f + 1) (I n) = some (-1)) : ∃ v, F FU 0 = some v ∧ (v = -1 ∨ ∃ i, i < n ∧ v = I i) := by
  obtain ⟨v, v1, -, v3⟩ := find2 F F A n 0 hn hF (fun k hk f => by rw [Nat.zero_add, Nat.zero_add]; exact hF k hk f) eF (fun f => by rw [Nat.zero_add]; exact eF f)
  exact ⟨v, v1, v3⟩
section NAMED
variable {p r c h n : Nat} {s t : HS}
theorem ref_named {o : Nat} {w : Int64} {m a : Nat} (hm : m ≤ 6) (ha : a + m ≤ (sk o).2) (hs : (sk o).2 ≤ 12) : ∀ k, k < m → ∀ f, f_X12_named_l3 o (I a) (I m) w t (f + 1) (I (a + k)) = if t.2.1 o (a + k) = w then some (I k) else f_X12_named_l3 o (I a) (I m) w t f (I (a + (k + 1))) := by
  intro k hk f
  have e1 : ¬ I a + I m ≤ I (a + k) := by rw [I_add, I_le (by omega) (by omega)]; omega
  have e2 : I (a + k) - I a = I k := by rw [I_sub (by omega), Nat.add_sub_cancel_left]
  simp only [f_X12_named_l3, f_X12_named_l3b, if_neg e1, inb_t (show a + k < (sk o).2 from by omega) (by omega), gd_t, I_nat (show a + k < 2147483648 from by omega), e2, I_p1, ltb_t, cmp_e]
  rfl
theorem ref_named0 {o : Nat} {w : Int64} {m a : Nat} (f : Nat) : f_X12_named_l3 o (I a) (I m) w t (f + 1) (I (a + m)) = some (-1) := by
  simp only [f_X12_named_l3, f_X12_named_l3b, I_add, if_pos (Int32.le_refl _)]
theorem cls_coach (hp : okX4 p = true) (hc : c ≤ 6) (e : s.1 p 9 = I c) (w : Int64) : (∀ k, k < c → ∀ f, f_X4_coachOf_l2 p w s (f + 1) (I k) = if s.2.1 (Rf p 10) k = w then some (I k) else f_X4_coachOf_l2 p w s f (I (k + 1))) ∧ ∀ f, f_X4_coachOf_l2 p w s (f + 1) (I c) = some (-1) := by
  refine ⟨fun k hk f => ?_, fun f => ?_⟩
  · have e1 : ¬ I c ≤ I k := by rw [I_le (by omega) (by omega)]; omega
    simp only [f_X4_coachOf_l2, f_X4_coachOf_l2b, e, if_neg e1, inb_t (show k < 6 from by omega) (by omega), gd_t, I_nat (show k < 2147483648 from by omega), I_p1, ltb_t, cmp_e]
  · simp only [f_X4_coachOf_l2, f_X4_coachOf_l2b, e, if_pos (Int32.le_refl _)]
theorem cls_thing (hp : okX4 p = true) (hc : h ≤ 5) (e : s.1 p 12 = I h) (w : Int64) : (∀ k, k < h → ∀ f, f_X4_thingOf_l2 p w s (f + 1) (I k) = if s.2.1 (tS p k) 0 = w then some (I k) else f_X4_thingOf_l2 p w s f (I (k + 1))) ∧ ∀ f, f_X4_thingOf_l2 p w s (f + 1) (I h) = some (-1) := by
  refine ⟨fun k hk f => ?_, fun f => ?_⟩
  · have e1 : ¬ I h ≤ I k := by rw [I_le (by omega) (by omega)]; omega
    simp only [f_X4_thingOf_l2, f_X4_thingOf_l2b, e, if_neg e1, inb_t (show k < 5 from by omega) (by omega), gd_t, I_nat (show k < 2147483648 from by omega), I_p1, ltb_t, cmp_e]
    rfl
  · simp only [f_X4_thingOf_l2, f_X4_thingOf_l2b, e, if_pos (Int32.le_refl _)]
theorem cls_buyer (hp : okX4 p = true) (hc : n ≤ 6) (e : s.1 p 14 = I n) (w : Int64) : (∀ k, k < n → ∀ f, f_X4_buyerOf_l2 p w s (f + 1) (I k) = if s.2.1 (bS p k) 0 = w then some (I k) else f_X4_buyerOf_l2 p w s f (I (k + 1))) ∧ ∀ f, f_X4_buyerOf_l2 p w s (f + 1) (I n) = some (-1) := by
  refine ⟨fun k hk f => ?_, fun f => ?_⟩
  · have e1 : ¬ I n ≤ I k := by rw [I_le (by omega) (by omega)]; omega
    simp only [f_X4_buyerOf_l2, f_X4_buyerOf_l2b, e, if_neg e1, inb_t (show k < 6 from by omega) (by omega), gd_t, I_nat (show k < 2147483648 from by omega), I_p1, ltb_t, cmp_e]
    rfl
  · simp only [f_X4_buyerOf_l2, f_X4_buyerOf_l2b, e, if_pos (Int32.le_refl _)]
/-- the class alone, of any word -/
theorem cls_coach1 (hp : okX4 p = true) (hc : c ≤ 6) (e : s.1 p 9 = I c) (w : Int64) : ∃ v, f_X4_coachOf p w s = some v := by
  obtain ⟨a1, a2⟩ := cls_coach hp hc e w
  obtain ⟨v, v1, -⟩ := find1 (f_X4_coachOf_l2 p w s) (fun k => s.2.1 (Rf p 10) k = w) c (by omega) a1 a2
  exact ⟨v, v1⟩
theorem cls_thing1 (hp : okX4 p = true) (hc : h ≤ 5) (e : s.1 p 12 = I h) (w : Int64) : ∃ v, f_X4_thingOf p w s = some v := by
  obtain ⟨a1, a2⟩ := cls_thing hp hc e w
  obtain ⟨v, v1, -⟩ := find1 (f_X4_thingOf_l2 p w s) (fun k => s.2.1 (tS p k) 0 = w) h (by omega) a1 a2
  exact ⟨v, v1⟩
theorem cls_buyer1 (hp : okX4 p = true) (hc : n ≤ 6) (e : s.1 p 14 = I n) (w : Int64) : ∃ v, f_X4_buyerOf p w s = some v := by
  obtain ⟨a1, a2⟩ := cls_buyer hp hc e w
  obtain ⟨v, v1, -⟩ := find1 (f_X4_buyerOf_l2 p w s) (fun k => s.2.1 (bS p k) 0 = w) n (by omega) a1 a2
  exact ⟨v, v1⟩
theorem nm_iff {A : Nat → Int64} {B : Nat → Int64} {m : Nat} (h : ∀ i, i < m → NMk (A i) (B i)) {k w : Int64} (N : NMk k w) : ∀ i, i < m → (A i = k ↔ B i = w) := fun i hi => (h i hi).iff N
/-- both, of one word -/
theorem r_coach (hp : okX4 p = true) (hc : c ≤ 6) (e : s.1 p 9 = I c) (e2 : t.1 103 10 = I c) (S : ∀ i, i < c → NMk (s.2.1 (Rf p 10) i) (t.2.1 104 (6 + i))) {k w : Int64} (N : NMk k w) (hw : t.2.1 101 7 = w) : ∃ v, f_X4_coachOf p k s = some v ∧ f_X12_coachNamed t = some v ∧ (v = -1 ∨ ∃ i, i < c ∧ v = I i) := by
  obtain ⟨a1, a2⟩ := cls_coach hp hc e k
  have b1 := ref_named (t := t) (o := 104) (w := w) (m := c) (a := 6) hc (by rw [show (sk 104).2 = 12 from by decide]; omega) (by decide)
  obtain ⟨v, v1, v2, v3⟩ := find2 (f_X4_coachOf_l2 p k s) (f_X12_named_l3 104 (I 6) (I c) w t) (fun i => t.2.1 104 (6 + i) = w) c 6 (by omega) (fun i hi f => by rw [a1 i hi f]; simp only [nm_iff S N i hi]) b1 a2 (fun f => ref_named0 f)
  refine ⟨v, v1, ?_, v3⟩
  unfold f_X12_coachNamed f_X12_named
  rw [e2, hw, show (6 : Int32) = I 6 from litI 6, v2, bnd_t]
theorem r_thing (hp : okX4 p = true) (hr : r ≤ 1) (hc : h ≤ 5) (e : s.1 p 12 = I h) (e2 : t.1 103 (10 * r + 1) = I h) (S : ∀ i, i < h → NMk (s.2.1 (tS p i) 0) (t.2.1 105 (5 * r + i))) {k w : Int64} (N : NMk k w) (hw : t.2.1 101 7 = w) : ∃ v, f_X4_thingOf p k s = some v ∧ f_X12_thingNamed (I r) t = some v ∧ (v = -1 ∨ ∃ i, i < h ∧ v = I i) := by
  obtain ⟨a1, a2⟩ := cls_thing hp hc e k
  have b1 := ref_named (t := t) (o := 105) (w := w) (m := h) (a := 5 * r) (by omega) (by rw [show (sk 105).2 = 10 from by decide]; omega) (by decide)
  obtain ⟨v, v1, v2, v3⟩ := find2 (f_X4_thingOf_l2 p k s) (f_X12_named_l3 105 (I (5 * r)) (I h) w t) (fun i => t.2.1 105 (5 * r + i) = w) h (5 * r) (by omega) (fun i hi f => by rw [a1 i hi f]; simp only [nm_iff S N i hi]) b1 a2 (fun f => ref_named0 f)
  refine ⟨v, v1, ?_, v3⟩
  unfold f_X12_thingNamed f_X12_named
  have e10 : ((10 : Int32) * I r) + 1 = I (10 * r + 1) := by rw [show (10 : Int32) = I 10 from litI 10, I_mul, I_p1]
  have e5 : (5 : Int32) * I r = I (5 * r) := by rw [show (5 : Int32) = I 5 from litI 5, I_mul]
  rw [e10, e5, inb_t (by omega) (by omega), gd_t, I_nat (by omega), e2, hw, v2, bnd_t]
theorem r_buyer (hp : okX4 p = true) (hr : r ≤ 1) (hc : n ≤ 6) (e : s.1 p 14 = I n) (e2 : t.1 103 (10 * r + 2) = I n) (S : ∀ i, i < n → NMk (s.2.1 (bS p i) 0) (t.2.1 106 (6 * r + i))) {k w : Int64} (N : NMk k w) (hw : t.2.1 101 7 = w) : ∃ v, f_X4_buyerOf p k s = some v ∧ f_X12_buyerNamed (I r) t = some v ∧ (v = -1 ∨ ∃ i, i < n ∧ v = I i) := by
  obtain ⟨a1, a2⟩ := cls_buyer hp hc e k
  have b1 := ref_named (t := t) (o := 106) (w := w) (m := n) (a := 6 * r) (by omega) (by rw [show (sk 106).2 = 12 from by decide]; omega) (by decide)
  obtain ⟨v, v1, v2, v3⟩ := find2 (f_X4_buyerOf_l2 p k s) (f_X12_named_l3 106 (I (6 * r)) (I n) w t) (fun i => t.2.1 106 (6 * r + i) = w) n (6 * r) (by omega) (fun i hi f => by rw [a1 i hi f]; simp only [nm_iff S N i hi]) b1 a2 (fun f => ref_named0 f)
  refine ⟨v, v1, ?_, v3⟩
  unfold f_X12_buyerNamed f_X12_named
  have e10 : ((10 : Int32) * I r) + 2 = I (10 * r + 2) := by rw [show (10 : Int32) = I 10 from litI 10, show (2 : Int32) = I 2 from litI 2, I_mul, I_add]
  have e5 : (6 : Int32) * I r = I (6 * r) := by rw [show (6 : Int32) = I 6 from litI 6, I_mul]
  rw [e10, e5, inb_t (by omega) (by omega), gd_t, I_nat (by omega), e2, hw, v2, bnd_t]
end NAMED
