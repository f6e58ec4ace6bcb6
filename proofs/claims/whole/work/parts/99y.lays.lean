/-! Row 1 laid to row 0 -/
section SHIFT
variable {p r c h n : Nat} {s t s' t' : HS}
theorem PLx.shift (hp : okX4 p = true) (hn : c ≤ 6 ∧ h ≤ 5 ∧ n ≤ 6) {r' : Nat} (X : PLx p r c h n s t) (e0 : ∀ k, k ≤ 6 → s'.1 p k = s.1 p k) (e1 : ∀ k, k < 4 → s'.1 (p + 1) k = s.1 (p + 1) k) (e6 : ∀ i, i < c → s'.1 (p + 6) i = s.1 (p + 6) i) (e9 : ∀ i, i < h → ∀ k, s'.1 (p + (9 + i)) k = s.1 (p + (9 + i)) k) (e14 : ∀ i, i < n → ∀ k, s'.1 (p + (14 + 2 * i)) k = s.1 (p + (14 + 2 * i)) k ∧ s'.1 (p + (15 + 2 * i)) k = s.1 (p + (15 + 2 * i)) k)
    (m0 : ∀ k, 3 ≤ k → k < 10 → t'.1 103 (10 * r' + k) = t.1 103 (10 * r + k)) (m4 : ∀ i, i < c → t'.1 107 (6 * r' + i) = t.1 107 (6 * r + i)) (m5 : ∀ i, i < h → ∀ o, 108 ≤ o → o ≤ 112 → t'.1 o (5 * r' + i) = t.1 o (5 * r + i)) (m10 : ∀ i, i < n → ∀ o, (113 ≤ o ∧ o ≤ 116) ∨ o = 118 → t'.1 o (6 * r' + i) = t.1 o (6 * r + i)) (m14 : ∀ i, i < n → ∀ k, k < 3 → t'.1 117 (3 * (6 * r' + i) + k) = t.1 117 (3 * (6 * r + i) + k)) (m16 : ∀ k, k < 4 → t'.1 119 (4 * r' + k) = t.1 119 (4 * r + k)) : PLx p r' c h n s' t' := by
  obtain ⟨a6, a7, a8, a9, a10⟩ := X
  refine ⟨?_, ?_, ?_, ?_, ?_⟩
  · unfold PLsc
    rw [e0 0 (by omega), e0 1 (by omega), e0 2 (by omega), e0 3 (by omega), e0 4 (by omega), e0 5 (by omega), e0 6 (by omega), m0 3 (by omega) (by omega), m0 4 (by omega) (by omega), m0 5 (by omega) (by omega), m0 6 (by omega) (by omega), m0 7 (by omega) (by omega), m0 8 (by omega) (by omega), m0 9 (by omega) (by omega)]
    exact a6
  · intro i hi
    have := a7 i hi
    rw [yS_e hp] at this ⊢
    rw [e6 i hi, m4 i hi]; exact this
  · intro i hi
    have := a8 i hi
    unfold PLt at this ⊢
    rw [tS_e hp (by omega)] at this ⊢
    rw [e9 i hi, e9 i hi, e9 i hi, e9 i hi, e9 i hi, m5 i hi 108 (by omega) (by omega), m5 i hi 109 (by omega) (by omega), m5 i hi 110 (by omega) (by omega), m5 i hi 111 (by omega) (by omega), m5 i hi 112 (by omega) (by omega)]; exact this
  · intro i hi
    have := a9 i hi
    unfold PLb at this ⊢
    rw [wS_e hp (by omega), bS_e hp (by omega)] at this ⊢
    obtain ⟨b1, b2, b3, b4, m, g1, g2, g3, g4, g5, g6, g7⟩ := this
    have w : ∀ k, k < m → t'.1 117 (3 * (6 * r' + i) + k) = t.1 117 (3 * (6 * r + i) + k) := fun k hk => m14 i hi k (by omega)
    refine ⟨by rw [(e14 i hi 1).1, m10 i hi 113 (by omega)]; exact b1, by rw [(e14 i hi 2).1, m10 i hi 114 (by omega)]; exact b2, by rw [(e14 i hi 3).1, m10 i hi 115 (by omega)]; exact b3, by rw [(e14 i hi 4).1, m10 i hi 116 (by omega)]; exact b4, m, g1, g2, by rw [(e14 i hi 6).1]; exact g3, by rw [m10 i hi 118 (by omega)]; exact g4, fun k hk => by rw [(e14 i hi k).2, w k hk]; exact g5 k hk, fun k hk k' hk' q => ?_, ?_⟩
    · rw [w k hk, w k' hk'] at q; exact g6 k hk k' hk' q
    · rw [(e14 i hi 7).1, g7]; exact (wbits_cg w).symm
  · intro m hm
    have := a10 m hm
    rw [lS_e hp] at this ⊢
    rw [e1 m hm, m16 m hm]; exact this
theorem NMS.shift (hp : okX4 p = true) (hn : c ≤ 6 ∧ h ≤ 5 ∧ n ≤ 6) {r' : Nat} (N : NMS p r c h n s t) (e5 : ∀ i, i < c → s'.2.1 (p + 5) i = s.2.1 (p + 5) i) (e9 : ∀ i, i < h → s'.2.1 (p + (9 + i)) 0 = s.2.1 (p + (9 + i)) 0) (e14 : ∀ i, i < n → s'.2.1 (p + (14 + 2 * i)) 0 = s.2.1 (p + (14 + 2 * i)) 0) (m4 : ∀ i, i < c → t'.2.1 104 (6 * r' + i) = t.2.1 104 (6 * r + i)) (m5 : ∀ i, i < h → t'.2.1 105 (5 * r' + i) = t.2.1 105 (5 * r + i)) (m6 : ∀ i, i < n → t'.2.1 106 (6 * r' + i) = t.2.1 106 (6 * r + i)) : NMS p r' c h n s' t' := by
  obtain ⟨n1, n2, n3⟩ := N
  refine ⟨fun i hi => ?_, fun i hi => ?_, fun i hi => ?_⟩
  · have := n1 i hi
    rw [cS_e hp] at this ⊢
    rw [e5 i hi, m4 i hi]; exact this
  · have := n2 i hi
    rw [tS_e hp (by omega)] at this ⊢
    rw [e9 i hi, m5 i hi]; exact this
  · have := n3 i hi
    rw [bS_e hp (by omega)] at this ⊢
    rw [e14 i hi, m6 i hi]; exact this
end SHIFT
section LAYS
theorem m_moves (o m : Nat) (hm : m + m ≤ (sk o).2) (hs : (sk o).2 ≤ 2000) (t : HS) : ∃ t', f_X12_moves o (I m) t = some t' ∧ (∀ o' k, (o' ≠ o ∨ m ≤ k) → t'.1 o' k = t.1 o' k) ∧ (∀ k, k < m → t'.1 o k = t.1 o (m + k)) ∧ t'.2 = t.2 := by
  have key : ∀ e k, k + e = m → ∀ t, ∃ t', (∀ f, e < f → f_X12_moves_l2 o (I m) f (I k) t = some t') ∧ (∀ o' j, (o' ≠ o ∨ j < k ∨ m ≤ j) → t'.1 o' j = t.1 o' j) ∧ (∀ j, k ≤ j → j < m → t'.1 o j = t.1 o (m + j)) ∧ t'.2 = t.2 := by
    intro e
    induction e with
    | zero =>
      intro k hk t
      obtain rfl : k = m := by omega
      refine ⟨t, fun f hf => ?_, fun _ _ _ => rfl, fun j h1 h2 => by omega, rfl⟩
      obtain ⟨f', rfl⟩ : ∃ f', f = f' + 1 := ⟨f - 1, by omega⟩
      show f_X12_moves_l2b o (I k) (I k) _ t = _
      unfold f_X12_moves_l2b
      rw [if_pos (Int32.le_refl _)]
    | succ e ih =>
      intro k hk t
      obtain ⟨t', a1, a2, a3, a4⟩ := ih (k + 1) (by omega) (sI t o k (t.1 o (m + k)))
      refine ⟨t', fun f hf => ?_, fun o' j hj => ?_, fun j h1 h2 => ?_, a4⟩
      · obtain ⟨f', rfl⟩ : ∃ f', f = f' + 1 := ⟨f - 1, by omega⟩
        show f_X12_moves_l2b o (I m) (I k) _ t = _
        unfold f_X12_moves_l2b
        rw [if_neg (by rw [I_le (by omega) (by omega)]; omega), I_add, inb_t (show m + k < (sk o).2 from by omega) (by omega), gd_t, inb_t (show k < (sk o).2 from by omega) (by omega), gd_t, I_nat (by omega), I_nat (by omega), ltb_t, ltb_t, I_p1]
        exact a1 f' (by omega)
      · rw [a2 o' j (by omega), sI_at]
        by_cases y : o' = o
        · rw [if_pos y, if_neg (by omega), y]
        · rw [if_neg y]
      · by_cases y : j = k
        · rw [a2 o _ (by omega), y, sI_k]
        · rw [a3 j (by omega) h2, sI_s, if_neg (by omega)]
  obtain ⟨t', a1, a2, a3, a4⟩ := key m 0 (by omega) t
  refine ⟨t', ?_, fun o' k hk => a2 o' k (by omega), fun k hk => a3 k (by omega) hk, a4⟩
  unfold f_X12_moves
  rw [I0]
  exact a1 FU (FU_lt (by omega))
theorem m_movesN (o m : Nat) (hm : m + m ≤ (sk o).2) (hs : (sk o).2 ≤ 2000) (t : HS) : ∃ t', f_X12_movesNames o (I m) t = some t' ∧ (∀ o' k, (o' ≠ o ∨ m ≤ k) → t'.2.1 o' k = t.2.1 o' k) ∧ (∀ k, k < m → t'.2.1 o k = t.2.1 o (m + k)) ∧ t'.1 = t.1 ∧ t'.2.2 = t.2.2 := by
  have lk1 : ∀ (t : HS) (k : Nat) (x : Int64) (o' j : Nat), (sL t o k x).2.1 o' j = if o' = o then (if j = k then x else t.2.1 o' j) else t.2.1 o' j := fun t k x o' j => by
    show up2 t.2.1 o k x o' j = _
    unfold up2
    rfl
  have key : ∀ e k, k + e = m → ∀ t, ∃ t', (∀ f, e < f → f_X12_movesNames_l2 o (I m) f (I k) t = some t') ∧ (∀ o' j, (o' ≠ o ∨ j < k ∨ m ≤ j) → t'.2.1 o' j = t.2.1 o' j) ∧ (∀ j, k ≤ j → j < m → t'.2.1 o j = t.2.1 o (m + j)) ∧ t'.1 = t.1 ∧ t'.2.2 = t.2.2 := by
    intro e
    induction e with
    | zero =>
      intro k hk t
      obtain rfl : k = m := by omega
      refine ⟨t, fun f hf => ?_, fun _ _ _ => rfl, fun j h1 h2 => by omega, rfl, rfl⟩
      obtain ⟨f', rfl⟩ : ∃ f', f = f' + 1 := ⟨f - 1, by omega⟩
      show f_X12_movesNames_l2b o (I k) (I k) _ t = _
      unfold f_X12_movesNames_l2b
      rw [if_pos (Int32.le_refl _)]
    | succ e ih =>
      intro k hk t
      obtain ⟨t', a1, a2, a3, a4, a5⟩ := ih (k + 1) (by omega) (sL t o k (t.2.1 o (m + k)))
      refine ⟨t', fun f hf => ?_, fun o' j hj => ?_, fun j h1 h2 => ?_, a4, a5⟩
      · obtain ⟨f', rfl⟩ : ∃ f', f = f' + 1 := ⟨f - 1, by omega⟩
        show f_X12_movesNames_l2b o (I m) (I k) _ t = _
        unfold f_X12_movesNames_l2b
        rw [if_neg (by rw [I_le (by omega) (by omega)]; omega), I_add, inb_t (show m + k < (sk o).2 from by omega) (by omega), gd_t, inb_t (show k < (sk o).2 from by omega) (by omega), gd_t, I_nat (by omega), I_nat (by omega), ltb_t, ltb_t, I_p1]
        exact a1 f' (by omega)
      · rw [a2 o' j (by omega), lk1]
        by_cases y : o' = o
        · rw [if_pos y, if_neg (by omega)]
        · rw [if_neg y]
      · by_cases y : j = k
        · rw [a2 o _ (by omega), y, lk1, if_pos rfl, if_pos rfl]
        · rw [a3 j (by omega) h2, lk1, if_pos rfl, if_neg (by omega)]
  obtain ⟨t', a1, a2, a3, a4, a5⟩ := key m 0 (by omega) t
  refine ⟨t', ?_, fun o' k hk => a2 o' k (by omega), fun k hk => a3 k (by omega) hk, a4, a5⟩
  unfold f_X12_movesNames
  rw [I0]
  exact a1 FU (FU_lt (by omega))
/-- which rows have been laid -/
def szq : List (Nat × Nat) → Nat → Nat
  | [], _ => 0
  | q :: D, o => if o = q.1 then q.2 else szq D o
def Mvq (D N : List (Nat × Nat)) (t t' : HS) : Prop := (∀ o k, t'.1 o k = if k < szq D o then t.1 o (szq D o + k) else t.1 o k) ∧ (∀ o k, t'.2.1 o k = if k < szq N o then t.2.1 o (szq N o + k) else t.2.1 o k) ∧ t'.2.2 = t.2.2
theorem Mvq.mv {D N : List (Nat × Nat)} {t t1 : HS} (H : Mvq D N t t1) (o m : Nat) (hm : m + m ≤ (sk o).2) (hs : (sk o).2 ≤ 2000) (hz : szq D o = 0) {v : Int32} (hv : v = I m) : ∃ t2, f_X12_moves o v t1 = some t2 ∧ Mvq ((o, m) :: D) N t t2 := by
  subst hv
  obtain ⟨t2, a1, a2, a3, a4⟩ := m_moves o m hm hs t1
  have z : ∀ k, t1.1 o k = t.1 o k := fun k => by rw [H.1 o k, hz, if_neg (by omega)]
  refine ⟨t2, a1, fun o' k => ?_, fun o' k => by rw [show t2.2 = t1.2 from a4]; exact H.2.1 o' k, by rw [show t2.2 = t1.2 from a4]; exact H.2.2⟩
  show t2.1 o' k = if k < (if o' = o then m else szq D o') then t.1 o' ((if o' = o then m else szq D o') + k) else t.1 o' k
  by_cases y : o' = o
  · subst y
    rw [if_pos rfl]
    by_cases w : k < m
    · rw [if_pos w, a3 k w, z]
    · rw [if_neg w, a2 o' k (by omega), z]
  · rw [if_neg y, a2 o' k (Or.inl y), H.1 o' k]
theorem Mvq.mn {D N : List (Nat × Nat)} {t t1 : HS} (H : Mvq D N t t1) (o m : Nat) (hm : m + m ≤ (sk o).2) (hs : (sk o).2 ≤ 2000) (hz : szq N o = 0) {v : Int32} (hv : v = I m) : ∃ t2, f_X12_movesNames o v t1 = some t2 ∧ Mvq D ((o, m) :: N) t t2 := by
  subst hv
  obtain ⟨t2, a1, a2, a3, a4, a5⟩ := m_movesN o m hm hs t1
  have z : ∀ k, t1.2.1 o k = t.2.1 o k := fun k => by rw [H.2.1 o k, hz, if_neg (by omega)]
  refine ⟨t2, a1, fun o' k => by rw [show t2.1 = t1.1 from a4]; exact H.1 o' k, fun o' k => ?_, by rw [a5]; exact H.2.2⟩
  show t2.2.1 o' k = if k < (if o' = o then m else szq N o') then t.2.1 o' ((if o' = o then m else szq N o') + k) else t.2.1 o' k
  by_cases y : o' = o
  · subst y
    rw [if_pos rfl]
    by_cases w : k < m
    · rw [if_pos w, a3 k w, z]
    · rw [if_neg w, a2 o' k (by omega), z]
  · rw [if_neg y, a2 o' k (Or.inl y), H.2.1 o' k]
theorem m_lays (t : HS) : ∃ t' t2, f_X12_lays t = some t' ∧ Mvq [(122, 1000), (119, 4), (118, 6), (117, 18), (116, 6), (115, 6), (114, 6), (113, 6), (112, 5), (111, 5), (110, 5), (109, 5), (108, 5), (107, 6), (103, 10)] [(106, 6), (105, 5), (104, 6)] t t2 ∧ t' = sI (sI t2 120 0 (t.1 120 1 - 1000)) 121 0 (t.1 121 1 - 1000) := by
  have H0 : Mvq [] [] t t := ⟨fun o k => by rw [if_neg (by show ¬ k < 0; omega)], fun o k => by rw [if_neg (by show ¬ k < 0; omega)], rfl⟩
  obtain ⟨t1, a1, H1⟩ := H0.mv 103 10 (by decide) (by decide) (by decide) (v := 10) (by decide)
  obtain ⟨t2, a2, H2⟩ := H1.mn 104 6 (by decide) (by decide) (by decide) (v := 6) (by decide)
  obtain ⟨t3, a3, H3⟩ := H2.mn 105 5 (by decide) (by decide) (by decide) (v := 5) (by decide)
  obtain ⟨t4, a4, H4⟩ := H3.mn 106 6 (by decide) (by decide) (by decide) (v := 6) (by decide)
  obtain ⟨t5, a5, H5⟩ := H4.mv 107 6 (by decide) (by decide) (by decide) (v := 6) (by decide)
  obtain ⟨t6, a6, H6⟩ := H5.mv 108 5 (by decide) (by decide) (by decide) (v := 5) (by decide)
  obtain ⟨t7, a7, H7⟩ := H6.mv 109 5 (by decide) (by decide) (by decide) (v := 5) (by decide)
  obtain ⟨t8, a8, H8⟩ := H7.mv 110 5 (by decide) (by decide) (by decide) (v := 5) (by decide)
  obtain ⟨t9, a9, H9⟩ := H8.mv 111 5 (by decide) (by decide) (by decide) (v := 5) (by decide)
  obtain ⟨t10, a10, H10⟩ := H9.mv 112 5 (by decide) (by decide) (by decide) (v := 5) (by decide)
  obtain ⟨t11, a11, H11⟩ := H10.mv 113 6 (by decide) (by decide) (by decide) (v := 6) (by decide)
  obtain ⟨t12, a12, H12⟩ := H11.mv 114 6 (by decide) (by decide) (by decide) (v := 6) (by decide)
  obtain ⟨t13, a13, H13⟩ := H12.mv 115 6 (by decide) (by decide) (by decide) (v := 6) (by decide)
  obtain ⟨t14, a14, H14⟩ := H13.mv 116 6 (by decide) (by decide) (by decide) (v := 6) (by decide)
  obtain ⟨t15, a15, H15⟩ := H14.mv 117 18 (by decide) (by decide) (by decide) (v := 18) (by decide)
  obtain ⟨t16, a16, H16⟩ := H15.mv 118 6 (by decide) (by decide) (by decide) (v := 6) (by decide)
  obtain ⟨t17, a17, H17⟩ := H16.mv 119 4 (by decide) (by decide) (by decide) (v := 4) (by decide)
  obtain ⟨t18, a18, H18⟩ := H17.mv 122 1000 (by decide) (by decide) (by decide) (v := 1000) (by decide)
  have e120 : t18.1 120 1 = t.1 120 1 := by rw [H18.1 120 1]; exact if_neg (by decide)
  have e121 : t18.1 121 1 = t.1 121 1 := by rw [H18.1 121 1]; exact if_neg (by decide)
  refine ⟨_, t18, ?_, H18, rfl⟩
  unfold f_X12_lays
  rw [a1, bnd_t, a2, bnd_t, a3, bnd_t, a4, bnd_t, a5, bnd_t, a6, bnd_t, a7, bnd_t, a8, bnd_t, a9, bnd_t, a10, bnd_t, a11, bnd_t, a12, bnd_t, a13, bnd_t, a14, bnd_t, a15, bnd_t, a16, bnd_t, a17, bnd_t, a18, bnd_t, ltb_t, ltb_t, e120]
  rw [sI_o _ _ _ _ (show 121 ≠ 120 from by decide), e121]
end LAYS
