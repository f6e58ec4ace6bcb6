/-! One drinks what he wants, of both -/
section DRINK2
variable {p a c h n : Nat} {s t : HS}
def MLEFT (i g w k : Nat) (t : HS) (x m : Int32) : Option HS := f_X12_drinks_l127 (I i) g x m (I (k + 1)) (sI t 153 i (t.1 153 i ||| ((1 : Int32) <<< (I w &&& 31))))
def MDRUNK (i g w k : Nat) (t : HS) (x m : Int32) : Option HS := f_X12_drinks_l127 (I i) g x m (I (k + 1)) (sI t 152 i (t.1 152 i ||| ((1 : Int32) <<< (I w &&& 31))))
def CLEFT (i o f w k : Nat) (s : HS) (x m : Int32) : Option HS := f_X6_drink_l23 (I i) o f x m (I (k + 1)) (sI s 79 i (s.1 79 i ||| ((1 : Int32) <<< (I w &&& 31))))
def CDRUNK (i o f w k : Nat) (s : HS) (x m : Int32) : Option HS := f_X6_drink_l23 (I i) o f x m (I (k + 1)) (sI s 78 i (s.1 78 i ||| ((1 : Int32) <<< (I w &&& 31))))
/-- what the reference reads to go through one thing -/
theorem m_pre (P : PL p 0 c h n s t) {i w k m g : Nat} (hi : i < n) (hm : m ≤ 3) (hk : k < m) (m4 : t.1 118 i = I m) (hw : w < h) (w3 : t.1 117 (3 * i + k) = I w) (x v : Int32) :
    f_X12_drinks_l127 (I i) (g + 1) x v (I k) t = f_X12_drinks_l151 (I i) (I k) (I w) (fun v37 v38 s39 => f_X12_drinks_j207 (I i) v37 v38 (I k) (I w) (f_X12_drinks_l127 (I i) g) s39) FU x v t := by
  have hn := P.n6
  have i12 : inb (I i) 12 = true := inb_t (by omega) (by omega)
  have ii : (I i).toNatClampNeg = i := I_nat (by omega)
  have hkm : ¬ I m ≤ I k := by rw [I_le (by omega) (by omega)]; omega
  have k36 : inb (I (3 * i + k)) 36 = true := inb_t (by omega) (by omega)
  have kk2 : (I (3 * i + k)).toNatClampNeg = 3 * i + k := I_nat (by omega)
  simp only [f_X12_drinks_l127, f_X12_drinks_l127b, i12, gd_t, ii, m4, if_neg hkm, I_3, k36, kk2, w3, ltb_t]
theorem m_left0 {i w k g : Nat} (hi : i < 6) (x : Int32) : f_X12_drinks_j207 (I i) x 0 (I k) (I w) (f_X12_drinks_l127 (I i) g) t = MLEFT i g w k t x 0 := by
  have i6 : inb (I i) 6 = true := inb_t (by omega) (by omega)
  have ii : (I i).toNatClampNeg = i := I_nat (by omega)
  unfold f_X12_drinks_j207 f_X12_drinks_j247 f_X12_drinks_j248 f_X12_drinks_j281 f_X12_drinks_j282 f_X12_drinks_j320 MLEFT
  simp only [if_true, i6, gd_t, ii, ltb_t, I_succ]
theorem m_step0 (P : PL p 0 c h n s t) {i w k m g : Nat} (hi : i < n) (hm : m ≤ 3) (hk : k < m) (m4 : t.1 118 i = I m) (hw : w < h) (w3 : t.1 117 (3 * i + k) = I w) (x : Int32) :
    f_X12_drinks_l127 (I i) (g + 1) x 0 (I k) t = MLEFT i g w k t x 0 := by
  have hn := P.n6
  rw [m_pre P hi hm hk m4 hw w3]
  obtain ⟨f, hf⟩ := FU_s
  rw [hf]
  simp only [f_X12_drinks_l151, f_X12_drinks_l151b, if_true]
  exact m_left0 (by omega) x
theorem int_I {x : Int} (h1 : 0 ≤ x) : ((x.toNat : Nat) : Int) = x := by omega
theorem m_step1 (S : SR p a c h n s t) {i w k m g sv G sp T : Nat} (hi : i < n) (hm : m ≤ 3) (hk : k < m) (m4 : t.1 118 i = I m) (hw : w < h) (w3 : t.1 117 (3 * i + k) = I w) (h7 : t.1 151 i = I sv) (hT : sv ≤ T ∧ T ≤ G) (hG : G ≤ 900) (hg : s.1 75 i = I G) (hsp : t.1 103 8 = I sp ∧ sp ≤ 120)
    {fs sn : Int32} (sn1 : -180 ≤ sn.toInt ∧ sn.toInt ≤ sv) (hh : ∀ τ : Int32, f_X12_heatAt (I i) (I w) τ t = some (imax 0 (t.1 145 (4 + w) - t.1 112 w * (τ - sn) / 60))) (hfs : (fs = 0 ∧ (t.1 155 i = 0 ∨ ¬ I w = t.1 101 64)) ∨ (fs = 1 ∧ ¬ t.1 155 i = 0 ∧ I w = t.1 101 64)) {cw : Int} (hcw : cw = CW (t.1 108 w).toInt (t.1 145 (4 + w)).toInt (t.1 103 7).toInt (t.1 112 w).toInt) :
    ∃ F, T ≤ F ∧ ((F : Int) = max (T : Int) (sn.toInt + cw) ∧ F ≤ G ∨ F = G + 1 ∧ (G : Int) < max (T : Int) (sn.toInt + cw)) ∧
      f_X12_drinks_l127 (I i) (g + 1) (I T) 1 (I k) t = if F ≤ G then (if fs = 1 ∧ imax 0 (t.1 145 (4 + w) - t.1 112 w * (I F - sn) / 60) < 20 then MLEFT i g w k t (I F) 1 else if G < F + sp then MLEFT i g w k t (I F) 0 else MDRUNK i g w k t (I (F + sp)) 1) else MLEFT i g w k t (I F) 0 := by
  obtain ⟨b1, b2, b3, b4, b5, b6, b7, b8, b9, b10⟩ := id S
  have hn := b1.n6
  have i6 : inb (I i) 6 = true := inb_t (by omega) (by omega)
  have ii : (I i).toNatClampNeg = i := I_nat (by omega)
  obtain ⟨H1, H2, H3⟩ := b4.2.2.2.2.2 w hw
  obtain ⟨c1, c2, c3⟩ := b1.cools hw
  have hl : EqB (s.1 p 4) (t.1 103 7) 0 99 := by have := b1.sc.2.2.2.2.1; simpa using this
  obtain ⟨l1, l2, l3⟩ := hl
  have goes : f_X12_goesAt (I i) t = some (I G) := by rw [← hg]; exact (b7 i hi).2.2.1
  have cwb := CW_b (srt := (t.1 108 w).toInt) (C := (t.1 112 w).toInt) ⟨H2, H3⟩ l2
  rw [← hcw] at cwb
  -- hot or not, at each second
  have hot : ∀ τ : Nat, T ≤ τ → τ ≤ 900 → ((t.1 108 w = 2 ∨ imax 0 (t.1 145 (4 + w) - t.1 112 w * (I τ - sn) / 60) ≤ t.1 103 7) ↔ sn.toInt + cw ≤ τ) := by
    intro τ h1 h2
    have e1 : (I τ - sn).toInt = τ - sn.toInt := by rw [ti_sub (by rw [I_toInt (by omega)]; omega) (by rw [I_toInt (by omega)]; omega), I_toInt (by omega)]
    have two : t.1 108 w = 2 ↔ (t.1 108 w).toInt = 2 := by
      have : (2 : Int32).toInt = 2 := by decide
      rw [← Int32.toInt_inj, this]
    rw [two, Int32.le_iff_toInt_le, heat_t ⟨H2, H3⟩ ⟨c2, c3⟩ (by omega), e1, CW_iff ⟨H2, H3⟩ l2 ⟨c2, c3⟩ (by omega), ← hcw]
    omega
  have key : ∀ F : Nat, T ≤ F → F ≤ G + 1 → (∀ τ : Nat, T ≤ τ → τ < F → (τ : Int) < sn.toInt + cw) → (F ≤ G → sn.toInt + cw ≤ F) → f_X12_drinks_l127 (I i) (g + 1) (I T) 1 (I k) t = f_X12_drinks_j207 (I i) (I F) (if F ≤ G then 1 else 0) (I k) (I w) (f_X12_drinks_l127 (I i) g) t := by
    intro F h1 h2 h3 h4
    rw [m_pre b1 hi hm hk m4 hw w3]
    have := m_cool (t := t) (i := i) (w := w) (G := G) (F := F) (by omega) (by omega) (L := t.1 103 7) (srt := t.1 108 w) (HT := fun τ => imax 0 (t.1 145 (4 + w) - t.1 112 w * (I τ - sn) / 60)) (fun v37 v38 s39 => f_X12_drinks_j207 (I i) v37 v38 (I k) (I w) (f_X12_drinks_l127 (I i) g) s39) (I k) rfl rfl (fun τ _ => hh (I τ)) goes hG h2 (F - T) T (by omega) (fun τ q1 q2 => by
      have := hot τ q1 (by omega)
      have := h3 τ q1 q2
      constructor
      · intro z
        have : sn.toInt + cw ≤ τ := (hot τ q1 (by omega)).mp (Or.inl z)
        omega
      · intro z
        have : sn.toInt + cw ≤ τ := (hot τ q1 (by omega)).mp (Or.inr z)
        omega) (fun q => (hot F h1 (by omega)).mpr (h4 q)) (by omega) FU (FU_lt (by omega))
    rw [if_pos hT.2] at this
    exact this
  have fin : ∀ F : Nat, F ≤ G → f_X12_drinks_j207 (I i) (I F) 1 (I k) (I w) (f_X12_drinks_l127 (I i) g) t = if fs = 1 ∧ imax 0 (t.1 145 (4 + w) - t.1 112 w * (I F - sn) / 60) < 20 then MLEFT i g w k t (I F) 1 else if G < F + sp then MLEFT i g w k t (I F) 0 else MDRUNK i g w k t (I (F + sp)) 1 := by
    intro F hF
    have tail : f_X12_drinks_j247 (I i) (I F) 1 (I k) (I w) (f_X12_drinks_l127 (I i) g) t = if G < F + sp then MLEFT i g w k t (I F) 0 else MDRUNK i g w k t (I (F + sp)) 1 := by
      unfold f_X12_drinks_j247 f_X12_drinks_j248
      rw [if_neg one_ne, if_pos (Eq.refl _), goes, bnd_t, hsp.1, I_add]
      by_cases z : G < F + sp
      · rw [if_pos z, if_pos (by rw [I_lt (by omega) (by omega)]; exact z)]
        unfold f_X12_drinks_j281 f_X12_drinks_j282 f_X12_drinks_j320 MLEFT
        simp only [if_true, i6, gd_t, ii, ltb_t, I_succ]
      · rw [if_neg z, if_neg (by rw [I_lt (by omega) (by omega)]; exact z)]
        have f52 : Fr [(152, 0)] t (sI t 152 i ((t.1 152 i) ||| ((1 : Int32) <<< (I w &&& 31)))) := fr_sI (wm_all (by decide) _)
        unfold f_X12_drinks_j277 f_X12_drinks_j282 MDRUNK
        rw [if_neg one_ne, if_pos (Eq.refl _), i6, gd_t, gd_t, ltb_t, ii, f52.o (by decide), hsp.1, I_add, ltb_t, I_succ, ltb_t]
    unfold f_X12_drinks_j207
    rw [if_neg one_ne, i6, gd_t, ii]
    rcases hfs with ⟨q1, q2⟩ | ⟨q1, q2, q3⟩
    · have nf : ¬ (fs = 1 ∧ imax 0 (t.1 145 (4 + w) - t.1 112 w * (I F - sn) / 60) < 20) := by
        rintro ⟨z, -⟩
        rw [q1] at z
        exact absurd z (by decide)
      rw [if_neg nf, ← tail]
      by_cases z : t.1 155 i = 0
      · rw [if_pos z]
      · rw [if_neg z, if_neg (q2.resolve_left z)]
    · rw [if_neg q2, if_pos q3, hh, bnd_t, ← tail]
      by_cases z : 20 ≤ imax 0 (t.1 145 (4 + w) - t.1 112 w * (I F - sn) / 60)
      · have nf : ¬ (fs = 1 ∧ imax 0 (t.1 145 (4 + w) - t.1 112 w * (I F - sn) / 60) < 20) := fun y => absurd y.2 (Int32.not_lt.mpr z)
        rw [if_pos z, if_neg nf]
      · have nf : (fs = 1 ∧ imax 0 (t.1 145 (4 + w) - t.1 112 w * (I F - sn) / 60) < 20) := ⟨q1, Int32.not_le.mp z⟩
        rw [if_neg z, if_pos nf]
        unfold f_X12_drinks_j248 f_X12_drinks_j277 f_X12_drinks_j282 f_X12_drinks_j320 MLEFT
        rw [if_neg one_ne, if_neg one_ne, if_neg one_ne, if_neg one_ne, i6, gd_t, gd_t, ltb_t, ltb_t, ii, I_succ]
  by_cases z : max (T : Int) (sn.toInt + cw) ≤ G
  · obtain ⟨F, hF⟩ : ∃ F : Nat, (F : Int) = max (T : Int) (sn.toInt + cw) := ⟨(max (T : Int) (sn.toInt + cw)).toNat, by omega⟩
    have FG : F ≤ G := by omega
    refine ⟨F, by omega, Or.inl ⟨hF, FG⟩, ?_⟩
    rw [key F (by omega) (by omega) (fun τ q1 q2 => by omega) (fun _ => by omega), if_pos FG, if_pos FG]
    exact fin F FG
  · have FG : ¬ G + 1 ≤ G := by omega
    refine ⟨G + 1, by omega, Or.inr ⟨rfl, by omega⟩, ?_⟩
    rw [key (G + 1) (by omega) (by omega) (fun τ q1 q2 => by omega) (fun _ => by omega), if_neg FG, if_neg FG]
    exact m_left0 (i := i) (by omega) _
/-- the class, one thing -/
theorem c_step (S : SR p a c h n s t) {i w k m f sv G sp : Nat} (hi : i < n) (hm : m ≤ 3) (hk : k < m) (m3 : s.1 (bS p i) 6 = I m) (hw : w < h) (w2 : s.1 (Rf (bS p i) 5) k = I w) (h7 : t.1 151 i = I sv) (hG : G ≤ 900) (hg : s.1 75 i = I G) (hsp : t.1 103 8 = I sp ∧ sp ≤ 120)
    {fs sn : Int32} (sn1 : -180 ≤ sn.toInt ∧ sn.toInt ≤ sv) (hsv : sv ≤ 900) (hc : ∀ (o : Nat) (v3 v4 v5 : Int32) (K : Int32 → Int32 → Int32 → HS → Option HS), (if I w = (s.1 73 5) then (if (((s.1 73 16) >>> (I i &&& 31)) &&& (1 : Int32)) = 0 then f_X6_drink_j65 (I i) o v3 v4 v5 (I w) K s else f_X6_drink_j66 (I i) o v3 v4 v5 (I w) 1 K s) else f_X6_drink_j65 (I i) o v3 v4 v5 (I w) K s) = f_X6_drink_j89 (I i) o v3 v4 v5 (I w) fs sn K s)
    (hf01 : fs = 0 ∨ fs = 1) {cw : Int} (hcw : cw = CW (t.1 108 w).toInt (t.1 145 (4 + w)).toInt (t.1 103 7).toInt (t.1 112 w).toInt) :
    (∀ v3 : Int32, ∃ x, f_X6_drink_l23 (I i) (bS p i) (f + 1) v3 0 (I k) s = CLEFT i (bS p i) f w k s x 0) ∧
    ∀ T : Nat, sv ≤ T → T ≤ G → ∀ F : Nat, ((F : Int) = max (T : Int) (sn.toInt + cw) ∧ F ≤ G ∨ F = G + 1 ∧ (G : Int) < max (T : Int) (sn.toInt + cw)) → ∃ x, f_X6_drink_l23 (I i) (bS p i) (f + 1) (I T) 1 (I k) s = if G < F + sp then CLEFT i (bS p i) f w k s x 0 else (if fs = 1 ∧ imax 0 (t.1 145 (4 + w) - t.1 112 w * (I F - sn) / 60) < 20 then CLEFT i (bS p i) f w k s (I F) 1 else CDRUNK i (bS p i) f w k s (I (F + sp)) 1) := by
  obtain ⟨b1, b2, b3, b4, b5, b6, b7, b8, b9, b10⟩ := id S
  have hn := b1.n6
  have i6 : inb (I i) 6 = true := inb_t (by omega) (by omega)
  have ii : (I i).toNatClampNeg = i := I_nat (by omega)
  have kk : (I k).toNatClampNeg = k := I_nat (by omega)
  have k3 : inb (I k) 3 = true := inb_t (by omega) (by omega)
  have w5 : inb (I w) 5 = true := inb_t (by omega) (by omega)
  have ww : (I w).toNatClampNeg = w := I_nat (by omega)
  have hkm : ¬ I m ≤ I k := by rw [I_le (by omega) (by omega)]; omega
  obtain ⟨H1, H2, H3⟩ := b4.2.2.2.2.2 w hw
  obtain ⟨c1, c2, c3⟩ := b1.cools hw
  have hs1 : EqB (s.1 p 5) (t.1 103 8) 1 120 := by have := b1.sc.2.2.2.2.2.1; simpa using this
  have hl : EqB (s.1 p 4) (t.1 103 7) 0 99 := by have := b1.sc.2.2.2.2.1; simpa using this
  have cwb := CW_b (srt := (t.1 108 w).toInt) (C := (t.1 112 w).toInt) ⟨H2, H3⟩ hl.2.1
  rw [← hcw] at cwb
  have sp1 : 1 ≤ sp := by
    have := hs1.2.1
    rw [hsp.1, I_toInt (by omega)] at this
    omega
  obtain ⟨y, y1, y2⟩ := r_cools S hw
  rw [← hcw] at y2
  have pre : ∀ v3 v4 : Int32, f_X6_drink_l23 (I i) (bS p i) (f + 1) v3 v4 (I k) s = f_X6_drink_j89 (I i) (bS p i) v3 v4 (I k) (I w) fs sn (f_X6_drink_l23 (I i) (bS p i) f) s := by
    intro v3 v4
    rw [← hc]
    simp only [f_X6_drink_l23, f_X6_drink_l23b, m3, if_neg hkm, k3, gd_t, kk, w2, ltb_t]
  have left0 : ∀ x : Int32, f_X6_drink_j134 (I i) (bS p i) (I k) (I w) fs sn x (f_X6_drink_l23 (I i) (bS p i) f) s = CLEFT i (bS p i) f w k s x 0 := by
    intro x
    unfold f_X6_drink_j134 f_X6_drink_j135 f_X6_drink_j190 CLEFT
    simp only [if_true, i6, gd_t, ii, ltb_t, I_succ]
  refine ⟨fun v3 => ⟨imax v3 (sn + y), ?_⟩, fun T h1 h2 F hF => ?_⟩
  · rw [pre]
    unfold f_X6_drink_j89
    rw [y1, bnd_t, ltb_t, if_pos (Eq.refl _), left0]
  · refine ⟨imax (I T) (sn + y), ?_⟩
    rw [pre]
    unfold f_X6_drink_j89
    have e1 : (sn + y).toInt = sn.toInt + cw := by rw [ti_add (by omega) (by omega), y2]
    have e2 : (imax (I T) (sn + y)).toInt = max (T : Int) (sn.toInt + cw) := by rw [imax_t, I_toInt (by omega), e1]
    have e3 : (imax (I T) (sn + y) + I sp).toInt = max (T : Int) (sn.toInt + cw) + sp := by rw [ti_add (by rw [e2, I_toInt (by omega)]; omega) (by rw [e2, I_toInt (by omega)]; omega), e2, I_toInt (by omega)]
    rw [y1, bnd_t, ltb_t, if_neg one_ne, b2, b1.1, gd_t, i6, gd_t, ii, hg, hs1.1, hsp.1]
    by_cases z : G < F + sp
    · have z2 : I G < imax (I T) (sn + y) + I sp := by
        rw [Int32.lt_iff_toInt_lt, e3, I_toInt (by omega)]; omega
      rw [if_pos z, if_pos z2, left0]
    · have z2 : ¬ I G < imax (I T) (sn + y) + I sp := by
        rw [Int32.lt_iff_toInt_lt, e3, I_toInt (by omega)]; omega
      have hF' : (F : Int) = max (T : Int) (sn.toInt + cw) := by omega
      have e4 : imax (I T) (sn + y) = I F := by rw [← Int32.toInt_inj, e2, I_toInt (by omega)]; omega
      rw [if_neg z, if_neg z2, e4]
      have drk : f_X6_drink_j163 (I i) (bS p i) 1 (I k) (I w) (I F) (f_X6_drink_l23 (I i) (bS p i) f) s = CDRUNK i (bS p i) f w k s (I (F + sp)) 1 := by
        have f78 : Fr [(78, 0)] s (sI s 78 i ((s.1 78 i) ||| ((1 : Int32) <<< (I w &&& 31)))) := fr_sI (wm_all (by decide) _)
        unfold f_X6_drink_j163 CDRUNK
        rw [i6, gd_t, gd_t, ltb_t, ii, f78.2.2.2.2.1 (by decide), b2, b1.1, gd_t, f78.1 p 5 (by rcases okX4_c b1.1 with rfl | rfl <;> decide), hs1.1, hsp.1, I_add, ltb_t, ltb_t, I_succ]
      unfold f_X6_drink_j135
      rw [if_neg one_ne]
      rcases hf01 with q | q
      · have nf : ¬ (fs = 1 ∧ imax 0 (t.1 145 (4 + w) - t.1 112 w * (I F - sn) / 60) < 20) := by
          rintro ⟨z, -⟩
          rw [q] at z
          exact absurd z (by decide)
        rw [if_pos q, if_neg nf, drk]
      · have q0 : ¬ fs = 0 := by rw [q]; exact one_ne
        have heat : f_X6_heatOf (I w) (I F - sn) s = some (imax 0 (t.1 145 (4 + w) - t.1 112 w * (I F - sn) / 60)) := by
          unfold f_X6_heatOf
          rw [b3, b4.1, gd_t, w5, gd_t, b2, b1.1, gd_t, gd_t, ww, tS_f, H1, c1]
        rw [if_neg q0, heat, bnd_t]
        by_cases z3 : imax 0 (t.1 145 (4 + w) - t.1 112 w * (I F - sn) / 60) < 20
        · rw [if_pos z3, if_pos ⟨q, z3⟩]
          unfold f_X6_drink_j190 CLEFT
          rw [i6, gd_t, gd_t, ltb_t, ltb_t, ii, I_succ]
        · have nf : ¬ (fs = 1 ∧ imax 0 (t.1 145 (4 + w) - t.1 112 w * (I F - sn) / 60) < 20) := fun y => z3 y.2
          rw [if_neg z3, if_neg nf, drk]
end DRINK2
