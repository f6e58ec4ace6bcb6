/-! A round, of both -/
def LRd : List (Nat × Nat) := [(74, 0), (75, 0), (76, 0), (77, 0), (78, 0), (79, 0)]
def RDi (i : Nat) (s t : HS) : Prop := f_X12_comesAt (I i) t = some (s.1 74 i) ∧ (0 ≤ (s.1 74 i).toInt ∧ (s.1 74 i).toInt ≤ 600) ∧ f_X12_goesAt (I i) t = some (s.1 75 i) ∧ (0 ≤ (s.1 75 i).toInt ∧ (s.1 75 i).toInt ≤ (t.1 103 3).toInt) ∧ s.1 76 i = -1 ∧ s.1 77 i = -1 ∧ s.1 78 i = 0 ∧ s.1 79 i = 0
theorem okX7_av5 : ∀ a, a = 28 ∨ a = 64 ∨ a = 81 ∨ a = 86 ∨ a = 91 ∨ a = 96 → (∀ p, p = 2 ∨ p = 38 → av1 p LRd = true ∧ (wo LRd a = false ∧ wo LRd (a + 1) = false) ∧ av5 p a [(73, 16), (73, 17), (74, 0), (75, 0), (76, 0), (77, 0), (78, 0), (79, 0), (80, 0)] = true) := by
  intro a ha p hp
  rcases ha with rfl | rfl | rfl | rfl | rfl | rfl <;> rcases hp with rfl | rfl <;> decide +kernel
section PLAY
variable {p a c h n : Nat} {s t : HS}
theorem c_ready {s0 : HS} (P0 : PL p 0 c h n s0 t) (hp : s0.2.2.2.2.1 = p) (ha : s0.2.2.2.2.2.1 = a) (A0 : HR a h n s0 t) : ∀ d k, k + d = n → ∀ s, Fr LRd s0 s → (∀ i, i < k → RDi i s t) → ∀ f, d < f → ∃ s', f_X6_makeReady_l36 f (I k) s = some s' ∧ Fr LRd s0 s' ∧ ∀ i, i < n → RDi i s' t := by
  intro d
  have okv := okX7_av5 a (okX7_c A0.1) p (okX4_c P0.1)
  induction d with
  | zero =>
    intro k hk s fs hR f hf
    obtain ⟨f', rfl⟩ : ∃ f', f = f' + 1 := ⟨f - 1, by omega⟩
    have hk : k = n := by omega
    subst hk
    have P : PL p 0 c h k s t := P0.fr (M := []) fs Fr.refl okv.1 (by decide)
    have hp' : s.2.2.2.2.1 = p := by rw [fs.2.2.2.2.1 (by decide)]; exact hp
    exact ⟨s, by simp only [f_X6_makeReady_l36, f_X6_makeReady_l36b, hp', P.1, gd_t, P.nc, if_pos (Int32.le_refl _)], fs, hR⟩
  | succ d ih =>
    intro k hk s fs hR f hf
    obtain ⟨f', rfl⟩ : ∃ f', f = f' + 1 := ⟨f - 1, by omega⟩
    have P : PL p 0 c h n s t := P0.fr (M := []) fs Fr.refl okv.1 (by decide)
    have A : HR a h n s t := A0.fr (M := []) fs Fr.refl okv.2.1 (by decide)
    have hp' : s.2.2.2.2.1 = p := by rw [fs.2.2.2.2.1 (by decide)]; exact hp
    have ha' : s.2.2.2.2.2.1 = a := by rw [fs.2.2.2.2.2.1 (by decide)]; exact ha
    have hn := P.n6
    have hkn : k < n := by omega
    have hk2 : ¬ I n ≤ I k := by rw [I_le (by omega) (by omega)]; omega
    have kk : (I k).toNatClampNeg = k := I_nat (by omega)
    have k6 : inb (I k) 6 = true := inb_t (by omega) (by omega)
    have k12 : inb (I k) 12 = true := inb_t (by omega) (by omega)
    obtain ⟨x, w, w1, w2, w3, w4, w5, w6, w7, w8⟩ := r_goes P A.2.2.2.1 A.2.2.1.1 hkn
    obtain ⟨c1, -, -⟩ := P.kind hkn
    -- the row for him, when he comes at y
    have row : ∀ y : Int32, f_X12_comesAt (I k) t = some y → 0 ≤ y.toInt → y.toInt ≤ 600 → f_X6_makeReady_l36 (f' + 1) (I k) s = f_X6_makeReady_j89 (I k) w y (I k) (f_X6_makeReady_l36 f') s → ∃ s', f_X6_makeReady_l36 (f' + 1) (I k) s = some s' ∧ Fr LRd s0 s' ∧ ∀ i, i < n → RDi i s' t := by
      intro y y1 y2 y3 y4
      have g16 : Fr LRd s (sI s 74 k y) := fr_sI (wm_all (by decide) _)
      have x16 : f_X4_goesAt p w ((sI s 74 k y).1 a 1) (sI s 74 k y) = x := by
        rw [← w3]
        unfold f_X4_goesAt
        have ha74 : a ≠ 74 := by rcases okX7_c A.1 with q | q | q | q | q | q <;> omega
        have hp74 : p ≠ 74 := by rcases okX4_c P.1 with q | q <;> omega
        rw [sI_n _ _ _ ha74, sI_n _ _ _ hp74]
      have e : f_X6_makeReady_l36 (f' + 1) (I k) s = f_X6_makeReady_l36 f' (I (k + 1)) (sI (sI (sI (sI (sI (sI s 74 k y) 75 k x) 76 k (-1)) 77 k (-1)) 78 k 0) 79 k 0) := by
        rw [y4]
        unfold f_X6_makeReady_j89
        rw [k6, gd_t, kk, ltb_t, g16.2.2.2.2.1 (by decide), g16.2.2.2.2.2.1 (by decide), hp', ha', P.1, A.1, gd_t, gd_t, gd_t, x16, ltb_t, gd_t, ltb_t, gd_t, ltb_t, gd_t, ltb_t, gd_t, ltb_t, ltb_t, I_succ]
      rw [e]
      refine ih (k + 1) (by omega) _ (fs.trans (((((g16.trans (fr_sI (wm_all (by decide) _))).trans (fr_sI (wm_all (by decide) _))).trans (fr_sI (wm_all (by decide) _))).trans (fr_sI (wm_all (by decide) _))).trans (fr_sI (wm_all (by decide) _)))) (fun i hi => ?_) f' (by omega)
      by_cases z : i = k
      · subst z
        unfold RDi
        simp only [sI_at, Nat.reduceEqDiff, if_true, if_false]
        refine ⟨y1, ⟨y2, y3⟩, w4, ⟨w5, w6⟩, ?_⟩
        simp
      · have := hR i (by omega)
        unfold RDi at this ⊢
        simp only [sI_at, Nat.reduceEqDiff, if_true, if_false, if_neg z]
        exact this
    by_cases z : t.1 113 k = 2
    · refine row 0 ?_ (by decide) (by decide) ?_
      · unfold f_X12_comesAt
        rw [k12, gd_t, kk, if_pos z]
      · simp only [f_X6_makeReady_l36, f_X6_makeReady_l36b, hp', ha', P.1, A.1, gd_t, P.nc, if_neg hk2, w1, bnd_t, k6, kk, bS_f, c1, if_pos z]
    · refine row w ?_ w7 w8 ?_
      · unfold f_X12_comesAt
        rw [k12, gd_t, kk, if_neg z, w2, bnd_t]
      · simp only [f_X6_makeReady_l36, f_X6_makeReady_l36b, hp', ha', P.1, A.1, gd_t, P.nc, if_neg hk2, w1, bnd_t, k6, kk, bS_f, c1, if_neg z]
theorem m_ready {t0 : HS} (K : HS → Option HS) : ∀ d k, k + d = 6 → ∀ t, Fr [(150, 0), (151, 0), (155, 0)] t0 t → (∀ i, i < k → t.1 150 i = -1 ∧ t.1 151 i = -1 ∧ t.1 155 i = 0) → ∀ f, d < f → ∃ t', f_X12_runs_l2 K f (I k) t = K t' ∧ Fr [(150, 0), (151, 0), (155, 0)] t0 t' ∧ ∀ i, i < 6 → t'.1 150 i = -1 ∧ t'.1 151 i = -1 ∧ t'.1 155 i = 0 := by
  intro d
  induction d with
  | zero =>
    intro k hk t ft hR f hf
    obtain ⟨f', rfl⟩ : ∃ f', f = f' + 1 := ⟨f - 1, by omega⟩
    have hk : k = 6 := by omega
    subst hk
    refine ⟨t, ?_, ft, hR⟩
    simp only [f_X12_runs_l2, f_X12_runs_l2b]
    exact if_pos (by decide)
  | succ d ih =>
    intro k hk t ft hR f hf
    obtain ⟨f', rfl⟩ : ∃ f', f = f' + 1 := ⟨f - 1, by omega⟩
    have hk2 : ¬ (6 : Int32) ≤ I k := by rw [show (6 : Int32) = I 6 from rfl, I_le (by omega) (by omega)]; omega
    have kk : (I k).toNatClampNeg = k := I_nat (by omega)
    have k6 : inb (I k) 6 = true := inb_t (by omega) (by omega)
    obtain ⟨t', e1, e2, e3⟩ := ih (k + 1) (by omega) (sI (sI (sI t 150 k (-1)) 151 k (-1)) 155 k 0) (ft.trans (((fr_sI (wm_all (by decide) _)).trans (fr_sI (wm_all (by decide) _))).trans (fr_sI (wm_all (by decide) _)))) (fun i hi => by
      simp only [sI_at, Nat.reduceEqDiff, if_true, if_false]
      by_cases z : i = k
      · simp [z]
      · rw [if_neg z, if_neg z, if_neg z]; exact hR i (by omega)) f' (by omega)
    refine ⟨t', ?_, e2, e3⟩
    simp only [f_X12_runs_l2, f_X12_runs_l2b, if_neg hk2, k6, gd_t, kk, ltb_t, nar0, I_succ, e1]
/-- all are at the end -/
theorem r_ends : ∀ d m, m + d = n → ∀ (s t : HS), SR p a c h n s t → (∀ i, i < m → RSd i s t) → (∀ i, m ≤ i → i < n → s.1 78 i = 0 ∧ s.1 79 i = 0) → (∃ k, k < 2 ^ m ∧ s.1 73 15 = I k) → ∀ f g, d < f → d < g →
    ∃ s' t', f_X6_play_l45 f (I m) s = some s' ∧ f_X12_runs_l145 g (I m) t = some t' ∧ SR p a c h n s' t' ∧ (∀ i, i < n → RSd i s' t') ∧ ∃ k, k < 2 ^ n ∧ s'.1 73 15 = I k := by
  intro d
  induction d with
  | zero =>
    intro m hm s t S h1 h2 h3 f g hf hg
    obtain ⟨f', rfl⟩ : ∃ f', f = f' + 1 := ⟨f - 1, by omega⟩
    obtain ⟨g', rfl⟩ : ∃ g', g = g' + 1 := ⟨g - 1, by omega⟩
    have hm : m = n := by omega
    subst hm
    refine ⟨s, t, ?_, ?_, S, h1, h3⟩
    · simp only [f_X6_play_l45, f_X6_play_l45b, S.2.1, S.1.1, gd_t, S.1.nc, if_pos (Int32.le_refl _)]
    · simp only [f_X12_runs_l145, f_X12_runs_l145b, S.1.nm, if_pos (Int32.le_refl _)]
  | succ d ih =>
    intro m hm s t S h1 h2 h3 f g hf hg
    obtain ⟨f', rfl⟩ : ∃ f', f = f' + 1 := ⟨f - 1, by omega⟩
    obtain ⟨g', rfl⟩ : ∃ g', g = g' + 1 := ⟨g - 1, by omega⟩
    have hn := S.1.n6
    have hk2 : ¬ I n ≤ I m := by rw [I_le (by omega) (by omega)]; omega
    obtain ⟨kk, k1, k2⟩ := h3
    obtain ⟨z1, z2⟩ := h2 m (by omega) (by omega)
    obtain ⟨s1, t1, e1, e2, e3, S1, e4, ⟨k', k3, k4, k5⟩, f1, f2, e5⟩ := r_end S (show m < n by omega) z1 z2 k1 k2
    have kb : kk < 64 := Nat.lt_of_lt_of_le k1 (Nat.pow_le_pow_right (by omega) (by omega) : 2 ^ m ≤ 2 ^ 6)
    have kb' : k' < 64 := Nat.lt_of_lt_of_le k3 (Nat.pow_le_pow_right (by omega) (by omega) : 2 ^ (m + 1) ≤ 2 ^ 6)
    obtain ⟨s', t', d1, d2, d3, d4, d5⟩ := ih (m + 1) (by omega) s1 t1 S1 (fun i hi => by
      by_cases z : i = m
      · subst z; exact e4
      · obtain ⟨a1, a2, a3, a4, a5⟩ := e5 i z
        have := h1 i (by omega)
        unfold RSd OUTi DW at this ⊢
        rw [f2.o (show wo [(152, 0), (153, 0), (154, 0)] 145 = false by decide), f2.o (show wo [(152, 0), (153, 0), (154, 0)] 117 = false by decide), f2.o (show wo [(152, 0), (153, 0), (154, 0)] 118 = false by decide), a1, a2, a3, a4, a5, k4, bitb k' kb' i (by omega), k5 i (by omega), ← bitb kk kb i (by omega), ← k2]
        exact this) (fun i hi1 hi2 => by
        obtain ⟨a1, a2, -⟩ := e5 i (by omega)
        rw [a1, a2]; exact h2 i (by omega) hi2) ⟨k', k3, k4⟩ f' g' (by omega) (by omega)
    refine ⟨s', t', ?_, ?_, d3, d4, d5⟩
    · have o1 : s.1 a 0 = t.1 145 0 := S.2.2.2.1.2.1.1
      by_cases out : OUTi m t
      · have out' := out
        unfold OUTi at out'
        simp only [f_X6_play_l45, f_X6_play_l45b, f_X6_isOut, S.2.1, S.2.2.1, S.1.1, S.2.2.2.1.1, gd_t, S.1.nc, if_neg hk2, o1, if_neg out', bnd_t, if_neg one_ne, e1 out, ltb_t, I_succ, d1]
      · have e := e2 out
        subst e
        have out' : ((t.1 145 0) >>> (I m &&& 31)) &&& (1 : Int32) = 0 := Classical.not_not.mp out
        simp only [f_X6_play_l45, f_X6_play_l45b, f_X6_isOut, S.2.1, S.2.2.1, S.1.1, S.2.2.2.1.1, gd_t, S.1.nc, if_neg hk2, o1, if_pos out', bnd_t, if_true, ltb_t, I_succ, d1]
    · simp only [f_X12_runs_l145, f_X12_runs_l145b, S.1.nm, if_neg hk2, e3, bnd_t, ltb_t, I_succ, d2]
/-- a round, of both -/
theorem r_play (P : PL p 0 c h n s t) (hp : s.2.2.2.2.1 = p) (ha : s.2.2.2.2.2.1 = a) (A : HR a h n s t) (Q : QR h n s t) (O : OR p s t) (st : t.1 101 64 = -1 ∨ EqB (s.1 73 6) (t.1 101 65) 0 12) :
    ∃ s' t', f_X6_play s = some s' ∧ f_X12_runs t = some t' ∧ SR p a c h n s' t' ∧ RS n s' t' ∧ Fr L_X6_play s s' ∧ Fr L_X12_runs t t' := by
  have hn := P.n6
  have okv := okX7_av5 a (okX7_c A.1) p (okX4_c P.1)
  -- both made ready
  have f1 : Fr [(73, 16), (73, 17), (74, 0), (75, 0), (76, 0), (77, 0), (78, 0), (79, 0), (80, 0)] s (sI (sI (sI (sI s 73 15 0) 73 16 0) 80 0 0) 80 1 0) := (((fr_sI (by decide)).trans (fr_sI (by decide))).trans (fr_sI (by decide))).trans (fr_sI (by decide))
  have P1 : PL p 0 c h n (sI (sI (sI (sI s 73 15 0) 73 16 0) 80 0 0) 80 1 0) t := P.fr (M := []) f1 Fr.refl (av5_e okv.2.2).1 (by decide)
  have A1 : HR a h n (sI (sI (sI (sI s 73 15 0) 73 16 0) 80 0 0) 80 1 0) t := A.fr (M := []) f1 Fr.refl (av5_e okv.2.2).2.1 (by decide)
  obtain ⟨s2, r1, r2, r3⟩ := c_ready P1 (a := a) (by rw [f1.2.2.2.2.1 (by decide)]; exact hp) (by rw [f1.2.2.2.2.2.1 (by decide)]; exact ha) A1 n 0 (by omega) _ Fr.refl (fun i hi => by omega) FU (FU_lt (by omega))
  have r1' : f_X6_makeReady s = some s2 := by
    unfold f_X6_makeReady
    obtain ⟨f, hf⟩ : ∃ f, FU = f + 1 + 1 + 1 := ⟨4997, rfl⟩
    rw [ltb_t, ltb_t]
    have : ∀ K : HS → Option HS, f_X6_makeReady_l12 K FU 0 (sI (sI s 73 15 0) 73 16 0) = K (sI (sI (sI (sI s 73 15 0) 73 16 0) 80 0 0) 80 1 0) := by
      intro K
      rw [hf]
      simp only [f_X6_makeReady_l12, f_X6_makeReady_l12b]
      rw [if_neg (by decide), show inb 0 2 = true by decide, gd_t, ltb_t, ltb_t, if_neg (by decide), show inb (0 + 1) 2 = true by decide, gd_t, ltb_t, ltb_t, if_pos (by decide)]
      rfl
    rw [← I0] at r1
    rw [this, r1]
  obtain ⟨t1, q1, q2, q3⟩ := m_ready (t0 := t) (fun s9 => ltb (sI s9 156 (0) 0) fun s10 => ltb (sI s10 156 (1) 0) fun s11 => f_X12_runs_l51 (fun s35 => f_X12_runs_l145 FU 0 s35) FU 0 s11) 6 0 (by omega) t Fr.refl (fun i hi => by omega) FU (FU_lt (by omega))
  rw [← I0] at q1
  have f2 : Fr [(73, 16), (73, 17), (74, 0), (75, 0), (76, 0), (77, 0), (78, 0), (79, 0), (80, 0)] s s2 := f1.trans (r2.mono (by decide))
  have g2 : Fr [(150, 0), (151, 0), (155, 0), (156, 0)] t (sI (sI t1 156 0 0) 156 1 0) := ((q2.mono (by decide)).trans (fr_sI (by decide))).trans (fr_sI (by decide))
  have S2 : SR p a c h n s2 (sI (sI t1 156 0 0) 156 1 0) := by
    have i5 := av5_e okv.2.2
    refine ⟨P.fr f2 g2 i5.1 (by decide), by rw [f2.2.2.2.2.1 (by decide)]; exact hp, by rw [f2.2.2.2.2.2.1 (by decide)]; exact ha, A.fr f2 g2 i5.2.1 (by decide), Q.fr f2 g2 (by decide) (by decide), O.fr P.1 f2 g2 i5.1 (by decide), fun i hi => ?_, fun w hw => ?_, ?_, ⟨0, Nat.two_pow_pos _, ?_⟩⟩
    · obtain ⟨a1, a2, a3, a4, a5, a6, a7, a8⟩ := r3 i hi
      obtain ⟨b1, b2, b3⟩ := q3 i (by omega)
      have h16 : s2.1 73 16 = I 0 := by rw [r2.o (by decide)]; simp [sI_at, I0]
      have o3 : (sI (sI t1 156 0 0) 156 1 0).1 103 = t.1 103 := g2.o (by decide)
      refine ⟨(comes_fr g2 (by decide) _).trans a1, a2, (goes_fr g2 (by decide) _).trans a3, by rw [o3]; exact a4, ?_, ?_, ?_, ?_, ?_, fun _ => ?_⟩
      · rw [a5, sI_n _ _ _ (by decide), sI_n _ _ _ (by decide), b1]
      · rw [sI_n _ _ _ (by decide), sI_n _ _ _ (by decide), b1]; exact Or.inl rfl
      · rw [a6, sI_n _ _ _ (by decide), sI_n _ _ _ (by decide), b2]
      · rw [sI_n _ _ _ (by decide), sI_n _ _ _ (by decide), b2]; exact Or.inl rfl
      · rw [h16, bitb 0 (by decide) i (by omega), sI_n _ _ _ (by decide), sI_n _ _ _ (by decide), b3]; simp
      · rw [sI_n _ _ _ (by decide), sI_n _ _ _ (by decide), b3]
    · have h80 : s2.1 80 w = 0 := by
        rw [r2.o (by decide)]
        have : w = 0 ∨ w = 1 := by omega
        rcases this with rfl | rfl <;> simp [sI_at]
      have h156 : (sI (sI t1 156 0 0) 156 1 0).1 156 w = 0 := by
        have : w = 0 ∨ w = 1 := by omega
        rcases this with rfl | rfl <;> simp [sI_at]
      rw [h80, h156]; exact ⟨rfl, by decide⟩
    · rw [g2.o (by decide), f2.1 73 6 (by decide)]; exact st
    · rw [r2.o (by decide)]; simp [sI_at, I0]
  obtain ⟨stop, -, e0, e1, e2⟩ := (show EqB (s.1 p 0) (t.1 103 3) 60 900 by have := P.sc.1; simpa using this).of (by omega)
  have o103 : (sI (sI t1 156 0 0) 156 1 0).1 103 3 = I stop := by rw [g2.o (by decide)]; exact e0
  obtain ⟨s3, t3, d1, d2, S3, f3⟩ := r_seconds (fun s10 => f_X6_play_j43 s10) (fun s35 => f_X12_runs_l145 FU 0 s35) (st := stop) (by omega) (stop - 0) 0 (Nat.le_refl _) (by omega) s2 _ S2 o103 0 (by omega) FU FU (FU_lt (by omega)) (FU_lt (by omega))
  obtain ⟨s4, t4, k1, k2, S4, k3, k4⟩ := r_ends n 0 (by omega) s3 t3 S3 (fun i hi => by omega) (fun i _ hi => by
    rw [f3.o (by decide), f3.o (by decide)]
    exact ⟨(r3 i hi).2.2.2.2.2.2.1, (r3 i hi).2.2.2.2.2.2.2⟩) ⟨0, by decide, by
      rw [f3.1 73 15 (by decide), r2.o (by decide)]; simp [sI_at, I0]⟩ FU FU (FU_lt (by omega)) (FU_lt (by omega))
  rw [← I0] at d1 d2 k1 k2
  have c1 : f_X6_play s = some s4 := by
    unfold f_X6_play
    rw [r1', bnd_t, d1]
    unfold f_X6_play_j43
    exact k1
  have c2 : f_X12_runs t = some t4 := by
    unfold f_X12_runs
    rw [q1, ltb_t, ltb_t, d2, k2]
  refine ⟨s4, t4, c1, c2, S4, ⟨fun i hi => ?_, k3, k4⟩, w_X6_play s s4 c1, w_X12_runs t t4 c2⟩
  obtain ⟨-, -, a3, -, a5, a6, a7, a8, -⟩ := S4.2.2.2.2.2.2.1 i hi
  exact ⟨a5, a6, a7, a8.imp_right And.left, a3⟩
end PLAY
