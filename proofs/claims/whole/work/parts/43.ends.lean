/-! The end of a round for each, of both -/
theorem okX7_av4 : ∀ a, a = 28 ∨ a = 64 ∨ a = 81 ∨ a = 86 ∨ a = 91 ∨ a = 96 → (∀ p, p = 2 ∨ p = 38 → av5 p a [(78, 0), (79, 0)] = true ∧ av5 p a [(73, 16), (78, 0), (79, 0)] = true) := by
  intro a ha p hp
  rcases ha with rfl | rfl | rfl | rfl | rfl | rfl <;> rcases hp with rfl | rfl <;> exact ⟨by decide +kernel, by decide +kernel⟩
def DRel (sv G sp : Nat) (v3 v4 u3 u4 : Int32) : Prop := (∃ T : Nat, sv ≤ T ∧ T ≤ G ∧ v3 = I T ∧ v4 = 1 ∧ u3 = I T ∧ u4 = 1) ∨ (v4 = 0 ∧ u4 = 0) ∨ (v4 = 0 ∧ u4 = 1 ∧ ∃ T : Nat, sv ≤ T ∧ T ≤ G ∧ u3 = I T ∧ G < T + sp)
section ENDS
variable {p a c h n : Nat} {s t : HS}
theorem EqB.or {x y : Int32} {w : Nat} (e : EqB x y 0 31) (hw : w < 5) : EqB (x ||| ((1 : Int32) <<< (I w &&& 31))) (y ||| ((1 : Int32) <<< (I w &&& 31))) 0 31 := by
  obtain ⟨k, k1, k2, k3, k4⟩ := e.of (by omega)
  refine ⟨by rw [e.1], ?_⟩
  rw [k2, orb k (by omega) w (by omega)]
  have : k ||| 2 ^ w < 2 ^ 5 := Nat.or_lt_two_pow (by omega) (Nat.pow_lt_pow_right (by omega) hw)
  rw [I_toInt (by omega)]
  omega
theorem DW.zero {i : Nat} {t : HS} (h : t.1 152 i = 0) : DW i t := ⟨0, by omega, by rw [h, I0], fun q _ hq => by simp at hq⟩
theorem DW.keep {i : Nat} {t t' : HS} (d : DW i t) (e1 : t'.1 152 i = t.1 152 i) (e2 : t'.1 117 = t.1 117) (e3 : t'.1 118 = t.1 118) : DW i t' := by
  unfold DW
  rw [e1, e2, e3]; exact d
theorem DW.add {i w m k : Nat} {t t' : HS} (d : DW i t) (hw : w < 5) (hm : m ≤ 3) (m4 : t.1 118 i = I m) (hk : k < m) (w3 : t.1 117 (3 * i + k) = I w) (e1 : t'.1 152 i = t.1 152 i ||| ((1 : Int32) <<< (I w &&& 31))) (e2 : t'.1 117 = t.1 117) (e3 : t'.1 118 = t.1 118) : DW i t' := by
  obtain ⟨x, x1, x2, x3⟩ := d
  refine ⟨x ||| 2 ^ w, Nat.or_lt_two_pow (n := 5) (by omega) (Nat.pow_lt_pow_right (by omega) hw), by rw [e1, x2, orb x (by omega) w (by omega)], fun q hq hb => ?_⟩
  rw [e2, e3]
  rw [Nat.testBit_or, Nat.testBit_two_pow, Bool.or_eq_true] at hb
  rcases hb with hb | hb
  · exact x3 q hq hb
  · have : w = q := by simpa using hb
    subst this
    exact ⟨m, k, hm, m4, hk, w3⟩
/-- all he wants, one thing behind another -/
theorem r_drink_l {i m sv G sp : Nat} (hi : i < n) (hm : m ≤ 3) (hsv : sv ≤ 900) (hG : G ≤ 900) (hsp : sp ≤ 120) : ∀ d k, k + d = m → ∀ (s t : HS), SR p a c h n s t → s.1 (bS p i) 6 = I m → t.1 118 i = I m → (∀ k, k < m → ∃ w, w < h ∧ s.1 (Rf (bS p i) 5) k = I w ∧ t.1 117 (3 * i + k) = I w) →
    t.1 151 i = I sv → s.1 75 i = I G → t.1 103 8 = I sp → EqB (s.1 78 i) (t.1 152 i) 0 31 → EqB (s.1 79 i) (t.1 153 i) 0 31 → DW i t → ∀ v3 v4 u3 u4, DRel sv G sp v3 v4 u3 u4 → ∀ f g, d < f → d < g →
    ∃ s' t', f_X6_drink_l23 (I i) (bS p i) f v3 v4 (I k) s = some s' ∧ f_X12_drinks_l127 (I i) g u3 u4 (I k) t = some t' ∧ SR p a c h n s' t' ∧ EqB (s'.1 78 i) (t'.1 152 i) 0 31 ∧ EqB (s'.1 79 i) (t'.1 153 i) 0 31 ∧ Fr [(78, 0), (79, 0)] s s' ∧ Fr [(152, 0), (153, 0)] t t' ∧ (∀ j, j ≠ i → s'.1 78 j = s.1 78 j ∧ s'.1 79 j = s.1 79 j ∧ t'.1 152 j = t.1 152 j ∧ t'.1 153 j = t.1 153 j) ∧ DW i t' := by
  intro d
  induction d with
  | zero =>
    intro k hk s t S m3 m4 m5 h7 hg hs e1 e2 dw v3 v4 u3 u4 D f g hf hg'
    obtain ⟨f', rfl⟩ : ∃ f', f = f' + 1 := ⟨f - 1, by omega⟩
    obtain ⟨g', rfl⟩ : ∃ g', g = g' + 1 := ⟨g - 1, by omega⟩
    have hk : k = m := by omega
    subst hk
    have hn := S.1.n6
    have i12 : inb (I i) 12 = true := inb_t (by omega) (by omega)
    have ii : (I i).toNatClampNeg = i := I_nat (by omega)
    refine ⟨s, t, ?_, ?_, S, e1, e2, Fr.refl, Fr.refl, fun j hj => ⟨rfl, rfl, rfl, rfl⟩, dw⟩
    · simp only [f_X6_drink_l23, f_X6_drink_l23b, m3, if_pos (Int32.le_refl _)]
    · simp only [f_X12_drinks_l127, f_X12_drinks_l127b, i12, gd_t, ii, m4, if_pos (Int32.le_refl _)]
  | succ d ih =>
    intro k hk s t S m3 m4 m5 h7 hg hs e1 e2 dw v3 v4 u3 u4 D f g hf hg'
    obtain ⟨f', rfl⟩ : ∃ f', f = f' + 1 := ⟨f - 1, by omega⟩
    obtain ⟨g', rfl⟩ : ∃ g', g = g' + 1 := ⟨g - 1, by omega⟩
    have hn := S.1.n6
    obtain ⟨w, w1, w2, w3⟩ := m5 k (by omega)
    obtain ⟨fs, sn, hc, sn1, hh, hfs⟩ := r_since S hi w1 h7 hsv
    have hf01 : fs = 0 ∨ fs = 1 := hfs.imp And.left And.left
    have okc := okX7_c S.2.2.2.1.1
    have okp := okX4_c S.1.1
    have bSn : bS p i ≠ 78 ∧ bS p i ≠ 79 ∧ Rf (bS p i) 5 ≠ 78 ∧ Rf (bS p i) 5 ≠ 79 := by
      rw [wS_e S.1.1 (by omega), bS_e S.1.1 (by omega)]
      rcases okp with rfl | rfl <;> omega
    -- both leave it
    have left : ∀ x y x' y', DRel sv G sp x y x' y' → f_X6_drink_l23 (I i) (bS p i) (f' + 1) v3 v4 (I k) s = CLEFT i (bS p i) f' w k s x y → f_X12_drinks_l127 (I i) (g' + 1) u3 u4 (I k) t = MLEFT i g' w k t x' y' →
        ∃ s' t', f_X6_drink_l23 (I i) (bS p i) (f' + 1) v3 v4 (I k) s = some s' ∧ f_X12_drinks_l127 (I i) (g' + 1) u3 u4 (I k) t = some t' ∧ SR p a c h n s' t' ∧ EqB (s'.1 78 i) (t'.1 152 i) 0 31 ∧ EqB (s'.1 79 i) (t'.1 153 i) 0 31 ∧ Fr [(78, 0), (79, 0)] s s' ∧ Fr [(152, 0), (153, 0)] t t' ∧ (∀ j, j ≠ i → s'.1 78 j = s.1 78 j ∧ s'.1 79 j = s.1 79 j ∧ t'.1 152 j = t.1 152 j ∧ t'.1 153 j = t.1 153 j) ∧ DW i t' := by
      intro x y x' y' D' q1 q2
      unfold CLEFT at q1
      unfold MLEFT at q2
      have fs' : Fr [(78, 0), (79, 0)] s (sI s 79 i (s.1 79 i ||| ((1 : Int32) <<< (I w &&& 31)))) := fr_sI (wm_all (by decide) _)
      have ft' : Fr [(152, 0), (153, 0)] t (sI t 153 i (t.1 153 i ||| ((1 : Int32) <<< (I w &&& 31)))) := fr_sI (wm_all (by decide) _)
      obtain ⟨s', t', d1, d2, d3, d4, d5, d6, d7, d8, d9⟩ := ih (k + 1) (by omega) _ _ (S.fr fs' ft' (okX7_av4 a okc p okp).1 (by decide) (by decide) (by decide)) (by rw [sI_n _ _ _ bSn.2.1]; exact m3) (by rw [sI_n _ _ _ (by decide)]; exact m4) (by rw [sI_n _ _ _ bSn.2.2.2, sI_n _ _ _ (by decide)]; exact m5)
        (by rw [sI_n _ _ _ (by decide)]; exact h7) (by rw [sI_n _ _ _ (by decide)]; exact hg) (by rw [sI_n _ _ _ (by decide)]; exact hs) (by rw [sI_n _ _ _ (by decide), sI_n _ _ _ (by decide)]; exact e1) (by rw [sI_k, sI_k]; exact e2.or (by omega)) (dw.keep (by rw [sI_n _ _ _ (by decide)]) (by rw [sI_n _ _ _ (by decide)]) (by rw [sI_n _ _ _ (by decide)])) x y x' y' D' f' g' (by omega) (by omega)
      refine ⟨s', t', q1.trans d1, q2.trans d2, d3, d4, d5, fs'.trans d6, ft'.trans d7, fun j hj => ?_, d9⟩
      obtain ⟨a1, a2, a3, a4⟩ := d8 j hj
      rw [a1, a2, a3, a4, sI_at, sI_at, sI_at, sI_at]
      simp [hj]
    have drunk : ∀ x y x' y', DRel sv G sp x y x' y' → f_X6_drink_l23 (I i) (bS p i) (f' + 1) v3 v4 (I k) s = CDRUNK i (bS p i) f' w k s x y → f_X12_drinks_l127 (I i) (g' + 1) u3 u4 (I k) t = MDRUNK i g' w k t x' y' →
        ∃ s' t', f_X6_drink_l23 (I i) (bS p i) (f' + 1) v3 v4 (I k) s = some s' ∧ f_X12_drinks_l127 (I i) (g' + 1) u3 u4 (I k) t = some t' ∧ SR p a c h n s' t' ∧ EqB (s'.1 78 i) (t'.1 152 i) 0 31 ∧ EqB (s'.1 79 i) (t'.1 153 i) 0 31 ∧ Fr [(78, 0), (79, 0)] s s' ∧ Fr [(152, 0), (153, 0)] t t' ∧ (∀ j, j ≠ i → s'.1 78 j = s.1 78 j ∧ s'.1 79 j = s.1 79 j ∧ t'.1 152 j = t.1 152 j ∧ t'.1 153 j = t.1 153 j) ∧ DW i t' := by
      intro x y x' y' D' q1 q2
      unfold CDRUNK at q1
      unfold MDRUNK at q2
      have fs' : Fr [(78, 0), (79, 0)] s (sI s 78 i (s.1 78 i ||| ((1 : Int32) <<< (I w &&& 31)))) := fr_sI (wm_all (by decide) _)
      have ft' : Fr [(152, 0), (153, 0)] t (sI t 152 i (t.1 152 i ||| ((1 : Int32) <<< (I w &&& 31)))) := fr_sI (wm_all (by decide) _)
      obtain ⟨s', t', d1, d2, d3, d4, d5, d6, d7, d8, d9⟩ := ih (k + 1) (by omega) _ _ (S.fr fs' ft' (okX7_av4 a okc p okp).1 (by decide) (by decide) (by decide)) (by rw [sI_n _ _ _ bSn.1]; exact m3) (by rw [sI_n _ _ _ (by decide)]; exact m4) (by rw [sI_n _ _ _ bSn.2.2.1, sI_n _ _ _ (by decide)]; exact m5)
        (by rw [sI_n _ _ _ (by decide)]; exact h7) (by rw [sI_n _ _ _ (by decide)]; exact hg) (by rw [sI_n _ _ _ (by decide)]; exact hs) (by rw [sI_k, sI_k]; exact e1.or (by omega)) (by rw [sI_n _ _ _ (by decide), sI_n _ _ _ (by decide)]; exact e2) (dw.add (show w < 5 by omega) hm m4 (show k < m by omega) w3 (sI_k _ _ _ _) (by rw [sI_n _ _ _ (by decide)]) (by rw [sI_n _ _ _ (by decide)])) x y x' y' D' f' g' (by omega) (by omega)
      refine ⟨s', t', q1.trans d1, q2.trans d2, d3, d4, d5, fs'.trans d6, ft'.trans d7, fun j hj => ?_, d9⟩
      obtain ⟨a1, a2, a3, a4⟩ := d8 j hj
      rw [a1, a2, a3, a4, sI_at, sI_at, sI_at, sI_at]
      simp [hj]
    obtain ⟨C0, C1⟩ := c_step S (f := f') hi hm (by omega) m3 w1 w2 h7 hG hg ⟨hs, hsp⟩ sn1 hsv hc hf01 (Eq.refl _)
    have M0 := m_step0 S.1 (g := g') hi hm (show k < m by omega) m4 w1 w3
    rcases D with ⟨T, T1, T2, rfl, rfl, rfl, rfl⟩ | ⟨rfl, rfl⟩ | ⟨rfl, rfl, T, T1, T2, rfl, T3⟩
    · obtain ⟨F, F1, F2, F3⟩ := m_step1 S (g := g') hi hm (by omega) m4 w1 w3 h7 ⟨T1, T2⟩ hG hg ⟨hs, hsp⟩ sn1 hh hfs (Eq.refl _)
      obtain ⟨x, C1⟩ := C1 T T1 T2 F F2
      by_cases z : F ≤ G
      · rw [if_pos z] at F3
        by_cases y : G < F + sp
        · rw [if_pos y] at C1
          by_cases v : fs = 1 ∧ imax 0 (t.1 145 (4 + w) - t.1 112 w * (I F - sn) / 60) < 20
          · rw [if_pos v] at F3
            exact left _ _ _ _ (Or.inr (Or.inr ⟨rfl, rfl, F, by omega, z, rfl, y⟩)) C1 F3
          · rw [if_neg v, if_pos y] at F3
            exact left _ _ _ _ (Or.inr (Or.inl ⟨rfl, rfl⟩)) C1 F3
        · rw [if_neg y] at C1
          by_cases v : fs = 1 ∧ imax 0 (t.1 145 (4 + w) - t.1 112 w * (I F - sn) / 60) < 20
          · rw [if_pos v] at F3 C1
            exact left _ _ _ _ (Or.inl ⟨F, by omega, z, rfl, rfl, rfl, rfl⟩) C1 F3
          · rw [if_neg v, if_neg y] at F3
            rw [if_neg v] at C1
            exact drunk _ _ _ _ (Or.inl ⟨F + sp, by omega, by omega, rfl, rfl, rfl, rfl⟩) C1 F3
      · rw [if_neg z] at F3
        rw [if_pos (by omega)] at C1
        exact left _ _ _ _ (Or.inr (Or.inl ⟨rfl, rfl⟩)) C1 F3
    · obtain ⟨x, C0⟩ := C0 v3
      exact left _ _ _ _ (Or.inr (Or.inl ⟨rfl, rfl⟩)) C0 (M0 u3)
    · obtain ⟨x, C0⟩ := C0 v3
      obtain ⟨F, F1, F2, F3⟩ := m_step1 S (g := g') hi hm (by omega) m4 w1 w3 h7 ⟨T1, T2⟩ hG hg ⟨hs, hsp⟩ sn1 hh hfs (Eq.refl _)
      by_cases z : F ≤ G
      · rw [if_pos z] at F3
        by_cases v : fs = 1 ∧ imax 0 (t.1 145 (4 + w) - t.1 112 w * (I F - sn) / 60) < 20
        · rw [if_pos v] at F3
          exact left _ _ _ _ (Or.inr (Or.inr ⟨rfl, rfl, F, by omega, z, rfl, by omega⟩)) C0 F3
        · rw [if_neg v, if_pos (by omega)] at F3
          exact left _ _ _ _ (Or.inr (Or.inl ⟨rfl, rfl⟩)) C0 F3
      · rw [if_neg z] at F3
        exact left _ _ _ _ (Or.inr (Or.inl ⟨rfl, rfl⟩)) C0 F3
/-- served too late: all is left -/
theorem m_left_l {i m : Nat} (hi : i < n) (hm : m ≤ 3) : ∀ d k, k + d = m → ∀ (t : HS), PL p 0 c h n s t → t.1 118 i = I m → (∀ k, k < m → ∃ w, w < h ∧ t.1 117 (3 * i + k) = I w) → t.1 153 i = wbits (fun k => t.1 117 (3 * i + k)) k → ∀ (x : Int32) g, d < g →
    ∃ t', f_X12_drinks_l127 (I i) g x 0 (I k) t = some t' ∧ t'.1 153 i = wbits (fun k => t.1 117 (3 * i + k)) m ∧ t'.1 152 i = t.1 152 i ∧ Fr [(152, 0), (153, 0)] t t' ∧ ∀ j, j ≠ i → t'.1 152 j = t.1 152 j ∧ t'.1 153 j = t.1 153 j := by
  intro d
  induction d with
  | zero =>
    intro k hk t P m4 m5 e x g hg
    obtain ⟨g', rfl⟩ : ∃ g', g = g' + 1 := ⟨g - 1, by omega⟩
    have hk : k = m := by omega
    subst hk
    have hn := P.n6
    have i12 : inb (I i) 12 = true := inb_t (by omega) (by omega)
    have ii : (I i).toNatClampNeg = i := I_nat (by omega)
    refine ⟨t, ?_, e, rfl, Fr.refl, fun j hj => ⟨rfl, rfl⟩⟩
    simp only [f_X12_drinks_l127, f_X12_drinks_l127b, i12, gd_t, ii, m4, if_pos (Int32.le_refl _)]
  | succ d ih =>
    intro k hk t P m4 m5 e x g hg
    obtain ⟨g', rfl⟩ : ∃ g', g = g' + 1 := ⟨g - 1, by omega⟩
    obtain ⟨w, w1, w3⟩ := m5 k (by omega)
    rw [m_step0 P hi hm (show k < m by omega) m4 w1 w3]
    unfold MLEFT
    have ft' : Fr [(152, 0), (153, 0)] t (sI t 153 i (t.1 153 i ||| ((1 : Int32) <<< (I w &&& 31)))) := fr_sI (wm_all (by decide) _)
    have e117 : (sI t 153 i (t.1 153 i ||| ((1 : Int32) <<< (I w &&& 31)))).1 117 = t.1 117 := sI_n _ _ _ (by decide)
    obtain ⟨t', d1, d2, d3, d4, d5⟩ := ih (k + 1) (by omega) _ (P.fr (L := []) Fr.refl ft' (by rcases okX4_c P.1 with rfl | rfl <;> decide) (by decide)) (by rw [sI_n _ _ _ (by decide)]; exact m4) (by rw [e117]; exact m5) (by
      rw [e117, sI_k, e]
      show _ = wbits _ k ||| ((1 : Int32) <<< (t.1 117 (3 * i + k) &&& 31))
      rw [w3]) x g' (by omega)
    rw [e117] at d2
    refine ⟨t', d1, d2, by rw [d3, sI_n _ _ _ (by decide)], ft'.trans d4, fun j hj => ?_⟩
    obtain ⟨a3, a4⟩ := d5 j hj
    rw [a3, a4, sI_at, sI_at]
    simp [hj]
/-- the end for one -/
theorem r_end (S : SR p a c h n s t) {i : Nat} (hi : i < n) (z78 : s.1 78 i = 0) (z79 : s.1 79 i = 0) {kk : Nat} (hk : kk < 2 ^ i) (z15 : s.1 73 15 = I kk) :
    ∃ s' t', (OUTi i t → f_X6_endFor (I i) s = some s') ∧ (¬ OUTi i t → s' = s) ∧ f_X12_drinks (I i) t = some t' ∧ SR p a c h n s' t' ∧ RSd i s' t' ∧ (∃ k, k < 2 ^ (i + 1) ∧ s'.1 73 15 = I k ∧ ∀ j, j < i → k.testBit j = kk.testBit j) ∧ Fr [(73, 16), (78, 0), (79, 0)] s s' ∧ Fr [(152, 0), (153, 0), (154, 0)] t t' ∧
      (∀ j, j ≠ i → s'.1 78 j = s.1 78 j ∧ s'.1 79 j = s.1 79 j ∧ t'.1 152 j = t.1 152 j ∧ t'.1 153 j = t.1 153 j ∧ t'.1 154 j = t.1 154 j) := by
  obtain ⟨b1, b2, b3, b4, b5, b6, b7, b8, b9, b10⟩ := id S
  have hn := b1.n6
  have i6 : inb (I i) 6 = true := inb_t (by omega) (by omega)
  have ii : (I i).toNatClampNeg = i := I_nat (by omega)
  have okc := okX7_c b4.1
  have okp := okX4_c b1.1
  obtain ⟨m, m1, m2, m3, m4, m5, m6, m7⟩ := b1.want hi
  obtain ⟨-, -, c3, c4, c5, c6, c7, c8, -⟩ := b7 i hi
  have hsc := b1.sc
  have hs1 : EqB (s.1 p 5) (t.1 103 8) 1 120 := by have := hsc.2.2.2.2.2.1; simpa using this
  have hst : EqB (s.1 p 0) (t.1 103 3) 60 900 := by have := hsc.1; simpa using this
  obtain ⟨sp, -, sp2, sp3, sp4⟩ := hs1.of (by omega)
  have hg : s.1 75 i = I (s.1 75 i).toInt.toNat := I_of c4.1
  have hGb : (s.1 75 i).toInt.toNat ≤ 900 := by have := c4.2; have := hst.2.2; omega
  have kb : kk < 64 := Nat.lt_of_lt_of_le hk (Nat.pow_le_pow_right (by omega) (by omega) : 2 ^ i ≤ 2 ^ 6)
  have kti : kk.testBit i = false := Nat.testBit_lt_two_pow hk
  -- the reference's clean start
  have ft5 : Fr [(152, 0), (153, 0), (154, 0)] t (sI (sI (sI t 152 i 0) 153 i 0) 154 i 0) := ((fr_sI (wm_all (by decide) _)).trans (fr_sI (wm_all (by decide) _))).trans (fr_sI (wm_all (by decide) _))
  have o145 : (sI (sI (sI t 152 i 0) 153 i 0) 154 i 0).1 145 = t.1 145 := ft5.o (by decide)
  have o151 : (sI (sI (sI t 152 i 0) 153 i 0) 154 i 0).1 151 = t.1 151 := ft5.o (by decide)
  have o103 : (sI (sI (sI t 152 i 0) 153 i 0) 154 i 0).1 103 = t.1 103 := ft5.o (by decide)
  obtain ⟨wy, y1, y2, y3, y4⟩ := r_way b1 b4.2.2.2.1 hi
  have goes5 : f_X12_goesAt (I i) (sI (sI (sI t 152 i 0) 153 i 0) 154 i 0) = some (s.1 75 i) := (goes_fr ft5 (by decide) _).trans c3
  have way5 : f_X12_wayOf (I i) (sI (sI (sI t 152 i 0) 153 i 0) 154 i 0) = some wy := (way_fr ft5 (by decide) _).trans y2
  by_cases out : OUTi i t
  case neg =>
    have out' : ((t.1 145 0) >>> (I i &&& 31)) &&& (1 : Int32) = 0 := Classical.not_not.mp out
    refine ⟨s, sI (sI (sI t 152 i 0) 153 i 0) 154 i 0, fun q => absurd q out, fun _ => rfl, ?_, S.fr Fr.refl ft5 (okX7_av4 a okc p okp).2 (by decide) (by decide) (by decide), ?_, ⟨kk, Nat.lt_of_lt_of_le hk (Nat.pow_le_pow_right (by omega) (by omega)), z15, fun _ _ => rfl⟩, Fr.refl, ft5, fun j hj => ?_⟩
    · unfold f_X12_drinks
      rw [i6, gd_t, ltb_t, gd_t, ltb_t, gd_t, ltb_t, ii, o145, if_pos out']
    · refine ⟨?_, ?_, ?_, fun _ => ⟨by rw [sI_n _ _ _ (by decide), sI_n _ _ _ (by decide), sI_k], sI_k _ _ _ _⟩, DW.zero (by rw [sI_n _ _ _ (by decide), sI_n _ _ _ (by decide), sI_k])⟩
      · rw [z78, sI_n _ _ _ (by decide), sI_n _ _ _ (by decide), sI_k]; exact ⟨rfl, by decide, by decide⟩
      · rw [z79, sI_n _ _ _ (by decide), sI_k]; exact ⟨rfl, by decide, by decide⟩
      · rw [z15, sI_k, bitb kk kb i (by omega), kti]; rfl
    · simp [sI_at, hj]
  -- he is out
  have dr : f_X12_drinks (I i) t = f_X12_drinks_j63 (I i) (if t.1 151 i ≤ s.1 75 i then s.1 75 i else t.1 151 i) (sI (sI (sI t 152 i 0) 153 i 0) 154 i 0) := by
    unfold f_X12_drinks
    rw [i6, gd_t, ltb_t, gd_t, ltb_t, gd_t, ltb_t, ii, o145, if_neg out, gd_t, goes5, bnd_t, o151]
    by_cases z : t.1 151 i ≤ s.1 75 i
    · rw [if_pos z, if_pos z, bnd_t]
    · rw [if_neg z, if_neg z, gd_t]
  generalize hgone : (if t.1 151 i ≤ s.1 75 i then s.1 75 i else t.1 151 i) = gone at dr
  -- whether he is behind
  let bh : Bool := decide (¬ gone + wy ≤ t.1 103 3)
  have ft16 : Fr [(152, 0), (153, 0), (154, 0)] t (sI (sI (sI (sI t 152 i 0) 153 i 0) 154 i 0) 154 i (if bh then 1 else 0)) := ft5.trans (fr_sI (wm_all (by decide) _))
  have j63 : f_X12_drinks_j63 (I i) gone (sI (sI (sI t 152 i 0) 153 i 0) 154 i 0) = f_X12_drinks_j90 (I i) (if bh then 1 else 0) (I i) (sI (sI (sI t 152 i 0) 153 i 0) 154 i 0) := by
    unfold f_X12_drinks_j63
    rw [way5, bnd_t, o103]
    by_cases z : gone + wy ≤ t.1 103 3
    · rw [if_pos z, show bh = false from decide_eq_false (fun q => q z)]; rfl
    · rw [if_neg z, show bh = true from decide_eq_true z]; rfl
  have S16 : SR p a c h n s (sI (sI (sI (sI t 152 i 0) 153 i 0) 154 i 0) 154 i (if bh then 1 else 0)) := S.fr Fr.refl ft16 (okX7_av4 a okc p okp).2 (by decide) (by decide) (by decide)
  have goes16 : f_X12_goesAt (I i) (sI (sI (sI (sI t 152 i 0) 153 i 0) 154 i 0) 154 i (if bh then 1 else 0)) = some (s.1 75 i) := (goes_fr ft16 (by decide) _).trans c3
  have q151 : (sI (sI (sI (sI t 152 i 0) 153 i 0) 154 i 0) 154 i (if bh then 1 else 0)).1 151 = t.1 151 := ft16.o (by decide)
  have q118 : (sI (sI (sI (sI t 152 i 0) 153 i 0) 154 i 0) 154 i (if bh then 1 else 0)).1 118 = t.1 118 := ft16.o (by decide)
  have q117 : (sI (sI (sI (sI t 152 i 0) 153 i 0) 154 i 0) 154 i (if bh then 1 else 0)).1 117 = t.1 117 := ft16.o (by decide)
  have q103 : (sI (sI (sI (sI t 152 i 0) 153 i 0) 154 i 0) 154 i (if bh then 1 else 0)).1 103 = t.1 103 := ft16.o (by decide)
  have q152 : (sI (sI (sI (sI t 152 i 0) 153 i 0) 154 i 0) 154 i (if bh then 1 else 0)).1 152 i = 0 := by rw [sI_n _ _ _ (by decide), sI_n _ _ _ (by decide), sI_n _ _ _ (by decide), sI_k]
  have q153 : (sI (sI (sI (sI t 152 i 0) 153 i 0) 154 i 0) 154 i (if bh then 1 else 0)).1 153 i = 0 := by rw [sI_n _ _ _ (by decide), sI_n _ _ _ (by decide), sI_k]
  have j90 : f_X12_drinks_j90 (I i) (if bh then 1 else 0) (I i) (sI (sI (sI t 152 i 0) 153 i 0) 154 i 0) = if 0 ≤ t.1 151 i then (if s.1 75 i < t.1 151 i then f_X12_drinks_l127 (I i) FU (t.1 151 i) 0 0 (sI (sI (sI (sI t 152 i 0) 153 i 0) 154 i 0) 154 i (if bh then 1 else 0)) else f_X12_drinks_l127 (I i) FU (t.1 151 i) 1 0 (sI (sI (sI (sI t 152 i 0) 153 i 0) 154 i 0) 154 i (if bh then 1 else 0))) else some (sI (sI (sI (sI t 152 i 0) 153 i 0) 154 i 0) 154 i (if bh then 1 else 0)) := by
    unfold f_X12_drinks_j90 f_X12_drinks_j122
    rw [i6, gd_t, ii, ltb_t, gd_t, gd_t, q151, ltb_t, goes16, bnd_t]
  rw [j63, j90] at dr
  have keep16 : ∀ j, j ≠ i → (sI (sI (sI (sI t 152 i 0) 153 i 0) 154 i 0) 154 i (if bh then 1 else 0)).1 152 j = t.1 152 j ∧ (sI (sI (sI (sI t 152 i 0) 153 i 0) 154 i 0) 154 i (if bh then 1 else 0)).1 153 j = t.1 153 j ∧ (sI (sI (sI (sI t 152 i 0) 153 i 0) 154 i 0) 154 i (if bh then 1 else 0)).1 154 j = t.1 154 j := fun j hj => by
    simp [sI_at, hj]
  -- the class's end, behind the drinking
  have fin : ∀ (s1 t1 : HS), SR p a c h n s1 t1 → f_X6_endFor (I i) s = f_X6_endFor_j60 (I i) gone s1 → f_X12_drinks (I i) t = some t1 → EqB (s1.1 78 i) (t1.1 152 i) 0 31 → EqB (s1.1 79 i) (t1.1 153 i) 0 31 → Fr [(78, 0), (79, 0)] s s1 → Fr [(152, 0), (153, 0)] (sI (sI (sI (sI t 152 i 0) 153 i 0) 154 i 0) 154 i (if bh then 1 else 0)) t1 → (∀ j, j ≠ i → s1.1 78 j = s.1 78 j ∧ s1.1 79 j = s.1 79 j ∧ t1.1 152 j = t.1 152 j ∧ t1.1 153 j = t.1 153 j) → DW i t1 →
      ∃ s' t', (OUTi i t → f_X6_endFor (I i) s = some s') ∧ (¬ OUTi i t → s' = s) ∧ f_X12_drinks (I i) t = some t' ∧ SR p a c h n s' t' ∧ RSd i s' t' ∧ (∃ k, k < 2 ^ (i + 1) ∧ s'.1 73 15 = I k ∧ ∀ j, j < i → k.testBit j = kk.testBit j) ∧ Fr [(73, 16), (78, 0), (79, 0)] s s' ∧ Fr [(152, 0), (153, 0), (154, 0)] t t' ∧
      (∀ j, j ≠ i → s'.1 78 j = s.1 78 j ∧ s'.1 79 j = s.1 79 j ∧ t'.1 152 j = t.1 152 j ∧ t'.1 153 j = t.1 153 j ∧ t'.1 154 j = t.1 154 j) := by
    intro s1 t1 S1 e1 e2 e3 e4 f1 f2 e5 dw1
    have f3 : Fr [(152, 0), (153, 0), (154, 0)] t t1 := ft16.trans (f2.mono (by decide))
    have t154 : t1.1 154 i = if bh then 1 else 0 := by rw [f2.o (by decide), sI_k]
    have t154j : ∀ j, j ≠ i → t1.1 154 j = t.1 154 j := fun j hj => by rw [f2.o (by decide)]; exact (keep16 j hj).2.2
    obtain ⟨w', w1, w2, -⟩ := r_way S1.1 S1.2.2.2.1.2.2.2.1 hi
    rw [way_fr f3 (by decide), y2] at w2
    have w2 := Option.some.inj w2
    subst w2
    have est : s1.1 p 0 = t.1 103 3 := by
      have := S1.1.sc.1.1
      rw [this, f3.o (by decide)]
    have z15' : s1.1 73 15 = I kk := by rw [f1.1 73 15 (by decide)]; exact z15
    have j60 : f_X6_endFor_j60 (I i) gone s1 = if gone + wy ≤ t.1 103 3 then some s1 else some (sI s1 73 15 (I (kk ||| 2 ^ i))) := by
      unfold f_X6_endFor_j60
      rw [S1.2.1, S1.2.2.1, S1.1.1, S1.2.2.2.1.1, gd_t, gd_t, w1, bnd_t, gd_t, est, z15', orb kk kb i (by omega), ltb_t]
    have ork : kk ||| 2 ^ i < 2 ^ (i + 1) := Nat.or_lt_two_pow (Nat.lt_of_lt_of_le hk (Nat.pow_le_pow_right (by omega) (by omega))) (Nat.pow_lt_pow_right (by omega) (by omega))
    have or64 : kk ||| 2 ^ i < 64 := Nat.lt_of_lt_of_le ork (Nat.pow_le_pow_right (by omega) (by omega) : 2 ^ (i + 1) ≤ 2 ^ 6)
    by_cases z : gone + wy ≤ t.1 103 3
    · rw [if_pos z] at j60
      have hb : bh = false := decide_eq_false (fun q => q z)
      rw [hb] at t154
      refine ⟨s1, t1, fun _ => e1.trans j60, fun q => absurd out q, e2, S1, ⟨e3, e4, ?_, fun q => absurd (show OUTi i t1 by unfold OUTi; rw [f3.o (by decide)]; exact out) q, dw1⟩, ⟨kk, Nat.lt_of_lt_of_le hk (Nat.pow_le_pow_right (by omega) (by omega)), z15', fun _ _ => rfl⟩, f1.mono (by decide), f3, fun j hj => ⟨(e5 j hj).1, (e5 j hj).2.1, (e5 j hj).2.2.1, (e5 j hj).2.2.2, t154j j hj⟩⟩
      rw [z15', t154, bitb kk kb i (by omega), kti]
    · rw [if_neg z] at j60
      have hb : bh = true := decide_eq_true z
      rw [hb] at t154
      have f4 : Fr [(73, 16), (78, 0), (79, 0)] s1 (sI s1 73 15 (I (kk ||| 2 ^ i))) := fr_sI (by decide)
      refine ⟨_, t1, fun _ => e1.trans j60, fun q => absurd out q, e2, S1.fr (M := []) f4 Fr.refl (okX7_av4 a okc p okp).2 (by decide) (by decide) (by decide), ⟨?_, ?_, ?_, fun q => absurd (show OUTi i t1 by unfold OUTi; rw [f3.o (by decide)]; exact out) q, dw1⟩, ⟨kk ||| 2 ^ i, ork, sI_k _ _ _ _, fun j hj => ?_⟩, (f1.mono (by decide)).trans f4, f3, fun j hj => ?_⟩
      · rw [sI_n _ _ _ (by decide)]; exact e3
      · rw [sI_n _ _ _ (by decide)]; exact e4
      · rw [sI_k, t154, bitb _ or64 i (by omega), Nat.testBit_or, Nat.testBit_two_pow]; simp
      · rw [Nat.testBit_or, Nat.testBit_two_pow]
        have : ¬ i = j := by omega
        simp [this]
      · rw [sI_n _ _ _ (by decide), sI_n _ _ _ (by decide)]
        exact ⟨(e5 j hj).1, (e5 j hj).2.1, (e5 j hj).2.2.1, (e5 j hj).2.2.2, t154j j hj⟩
  have e00 : EqB (0 : Int32) 0 0 31 := ⟨rfl, by decide, by decide⟩
  by_cases zn : t.1 151 i = -1
  · -- never served
    have nn : ¬ (0 : Int32) ≤ t.1 151 i := by rw [zn]; decide
    have le1 : t.1 151 i ≤ s.1 75 i := by
      have : (-1 : Int32).toInt = -1 := by decide
      rw [zn, Int32.le_iff_toInt_le, this]; omega
    rw [if_pos le1] at hgone
    rw [if_neg nn] at dr
    refine fin s _ S16 ?_ dr (by rw [z78, q152]; exact e00) (by rw [z79, q153]; exact e00) Fr.refl Fr.refl (fun j hj => ⟨rfl, rfl, (keep16 j hj).1, (keep16 j hj).2.1⟩) (DW.zero q152)
    unfold f_X6_endFor
    rw [i6, gd_t, ii, ltb_t, gd_t, gd_t, c7, if_pos le1, if_pos zn, hgone]
  · have c8 := (c8.resolve_left zn).1
    have nn : (0 : Int32) ≤ t.1 151 i := by rw [Int32.le_iff_toInt_le, Int32.toInt_zero]; exact c8
    rw [if_pos nn] at dr
    by_cases le1 : t.1 151 i ≤ s.1 75 i
    · -- served in time
      have le2 : ¬ s.1 75 i < t.1 151 i := Int32.not_lt.mpr le1
      rw [if_pos le1] at hgone
      rw [if_neg le2] at dr
      have hsv : t.1 151 i = I (t.1 151 i).toInt.toNat := I_of c8
      have le3 : (t.1 151 i).toInt.toNat ≤ (s.1 75 i).toInt.toNat := by rw [Int32.le_iff_toInt_le] at le1; omega
      obtain ⟨s1, t1, d1, d2, d3, d4, d5, d6, d7, d8, d9⟩ := r_drink_l hi m2 (show (t.1 151 i).toInt.toNat ≤ 900 by omega) hGb (show sp ≤ 120 by omega) m 0 (by omega) s _ S16 m3 (by rw [q118]; exact m4) (by rw [q117]; exact m5) (by rw [q151]; exact hsv) hg (by rw [q103]; exact sp2) (by rw [z78, q152]; exact e00) (by rw [z79, q153]; exact e00) (DW.zero q152) (t.1 151 i) 1 (t.1 151 i) 1 (Or.inl ⟨_, Nat.le_refl _, le3, hsv, rfl, hsv, rfl⟩) FU FU (FU_lt (by omega)) (FU_lt (by omega))
      rw [← I0] at d1 d2
      refine fin s1 t1 d3 ?_ (dr.trans d2) d4 d5 d6 d7 (fun j hj => ?_) d9
      · unfold f_X6_endFor f_X6_drink
        rw [i6, gd_t, ii, ltb_t, gd_t, gd_t, c7, if_pos le1, if_neg zn, b2, b1.1, gd_t, gd_t, bS_f, ltb_t, gd_t, ltb_t, d1, bnd_t, hgone]
      · obtain ⟨a1, a2, a3, a4⟩ := d8 j hj
        exact ⟨a1, a2, a3.trans (keep16 j hj).1, a4.trans (keep16 j hj).2.1⟩
    · -- served too late
      have le2 : s.1 75 i < t.1 151 i := Int32.not_le.mp le1
      rw [if_neg le1] at hgone
      rw [if_pos le2] at dr
      obtain ⟨t1, d1, d2, d3, d4, d5⟩ := m_left_l (s := s) hi m2 m 0 (by omega) _ S16.1 (by rw [q118]; exact m4) (by rw [q117]; exact fun k hk => by obtain ⟨w, w1, -, w3⟩ := m5 k hk; exact ⟨w, w1, w3⟩) (by rw [q153]; rfl) (t.1 151 i) FU (FU_lt (by omega))
      rw [← I0] at d1
      rw [q117] at d2
      rw [q152] at d3
      have fs' : Fr [(78, 0), (79, 0)] s (sI s 79 i (s.1 (bS p i) 7)) := fr_sI (wm_all (by decide) _)
      have S1 : SR p a c h n (sI s 79 i (s.1 (bS p i) 7)) t1 := S16.fr fs' (d4.mono (M := [(152, 0), (153, 0), (154, 0)]) (by decide)) (okX7_av4 a okc p okp).1 (by decide) (by decide) (by decide)
      obtain ⟨b, v1, v2, -⟩ := wbits_e hn.2.1 (w := fun k => t.1 117 (3 * i + k)) (m := m) (fun k hk => by obtain ⟨w, w1, -, w3⟩ := m5 k hk; exact ⟨w, w1, w3⟩)
      have b32 : b < 32 := Nat.lt_of_lt_of_le v1 (Nat.pow_le_pow_right (by omega) hn.2.1 : 2 ^ h ≤ 2 ^ 5)
      refine fin _ t1 S1 ?_ (dr.trans d1) ?_ ?_ fs' d4 (fun j hj => ?_) (DW.zero d3)
      · unfold f_X6_endFor
        rw [i6, gd_t, ii, ltb_t, gd_t, gd_t, c7, if_neg le1, ltb_t, b2, b1.1, gd_t, gd_t, gd_t, gd_t, bS_f, ltb_t, hgone]
      · rw [sI_n _ _ _ (by decide), z78, d3]; exact e00
      · rw [sI_k, m7, d2, v2]
        exact ⟨rfl, by rw [I_toInt (by omega)]; omega, by rw [I_toInt (by omega)]; omega⟩
      · obtain ⟨a3, a4⟩ := d5 j hj
        refine ⟨by rw [sI_n _ _ _ (by decide)], by rw [sI_s, if_neg hj], a3.trans (keep16 j hj).1, a4.trans (keep16 j hj).2.1⟩
end ENDS
