/-! The seconds of a round -/
section LOOP
variable {p a c h n : Nat} {s t : HS}
/-- nobody is served at T: nobody waits, or no woman is free -/
def IDL (n : Nat) (T : Int32) (s t : HS) : Prop := (∀ i, i < n → ¬ waits i T s t) ∨ (∀ w : Nat, w < 2 → I w < t.1 145 3 → T < t.1 156 w)
theorem women_e (S : SR p a c h n s t) : ∃ W, 1 ≤ W ∧ W ≤ 2 ∧ s.1 a 3 = I W ∧ t.1 145 3 = I W := by
  obtain ⟨W, e1, e2, e3, e4⟩ := S.2.2.2.1.2.2.2.2.1.of (by omega)
  exact ⟨W, by omega, by omega, e1, e2⟩
theorem m_idle_l (S : SR p a c h n s t) (T : Int32) (hi : IDL n T s t) (K : HS → Option HS) : ∀ d w, w + d = 2 → ∀ g, d < g → f_X12_runs_l63 T K g (I w) t = K t := by
  obtain ⟨W, W1, W2, -, W3⟩ := women_e S
  intro d
  induction d with
  | zero =>
    intro w hw g hg
    obtain ⟨g', rfl⟩ : ∃ g', g = g' + 1 := ⟨g - 1, by omega⟩
    have hk : I W ≤ I w := by rw [I_le (by omega) (by omega)]; omega
    simp only [f_X12_runs_l63, f_X12_runs_l63b, W3, if_pos hk]
  | succ d ih =>
    intro w hw g hg
    obtain ⟨g', rfl⟩ : ∃ g', g = g' + 1 := ⟨g - 1, by omega⟩
    by_cases z : W ≤ w
    · have hk : I W ≤ I w := by rw [I_le (by omega) (by omega)]; omega
      simp only [f_X12_runs_l63, f_X12_runs_l63b, W3, if_pos hk]
    · have hk : ¬ I W ≤ I w := by rw [I_le (by omega) (by omega)]; omega
      have ww : (I w).toNatClampNeg = w := I_nat (by omega)
      have w2 : inb (I w) 2 = true := inb_t (by omega) (by omega)
      have := ih (w + 1) (by omega) g' (by omega)
      by_cases z2 : t.1 156 w ≤ T
      · rcases hi with hi | hi
        · simp only [f_X12_runs_l63, f_X12_runs_l63b, W3, if_neg hk, w2, gd_t, ww, if_pos z2, m_idle S.1 S.2.2.2.2.2.2.1 T hi, bnd2_t]
          rw [if_neg (by decide)]
          simp only [ltb_t, I_succ, this]
        · exact absurd (hi w (by omega) (by rw [W3, I_lt (by omega) (by omega)]; omega)) (Int32.not_lt.mpr z2)
      · simp only [f_X12_runs_l63, f_X12_runs_l63b, W3, if_neg hk, w2, gd_t, ww, if_neg z2, ltb_t, I_succ, this]
theorem okX7_av3 : ∀ a, a = 28 ∨ a = 64 ∨ a = 81 ∨ a = 86 ∨ a = 91 ∨ a = 96 → (∀ p, p = 2 ∨ p = 38 → av5 p a [(80, 0)] = true ∧ av5 p a L_X6_nextServed = true) := by
  intro a ha p hp
  rcases ha with rfl | rfl | rfl | rfl | rfl | rfl <;> rcases hp with rfl | rfl <;> exact ⟨by decide +kernel, by decide +kernel⟩
theorem pos_ne {x : Int32} (h : 0 ≤ x.toInt) : ¬ x = -1 := by
  rintro rfl
  have : (-1 : Int32).toInt = -1 := by decide
  omega
/-- one second's serving -/
theorem r_serve_l {K : Nat} (hK : K ≤ 900) (Kt : HS → Option HS) : ∀ d w, w + d = 2 → ∀ (s t : HS), SR p a c h n s t → (∀ v : Nat, v < w → I K < t.1 156 v) → ∀ f g, d < f → d < g →
    ∃ s' t', f_X6_serveWaiting_l2 (I K) f (I w) s = some s' ∧ f_X12_runs_l63 (I K) Kt g (I w) t = Kt t' ∧ SR p a c h n s' t' ∧ IDL n (I K) s' t' := by
  intro d
  induction d with
  | zero =>
    intro w hw s t S hv f g hf hg
    obtain ⟨f', rfl⟩ : ∃ f', f = f' + 1 := ⟨f - 1, by omega⟩
    obtain ⟨g', rfl⟩ : ∃ g', g = g' + 1 := ⟨g - 1, by omega⟩
    obtain ⟨W, W1, W2, W0, W3⟩ := women_e S
    have hk : I W ≤ I w := by rw [I_le (by omega) (by omega)]; omega
    refine ⟨s, t, ?_, ?_, S, Or.inr (fun v h1 _ => hv v (by omega))⟩
    · simp only [f_X6_serveWaiting_l2, f_X6_serveWaiting_l2b, S.2.2.1, S.2.2.2.1.1, gd_t, W0, if_pos hk]
    · simp only [f_X12_runs_l63, f_X12_runs_l63b, W3, if_pos hk]
  | succ d ih =>
    intro w hw s t S hv f g hf hg
    obtain ⟨f', rfl⟩ : ∃ f', f = f' + 1 := ⟨f - 1, by omega⟩
    obtain ⟨g', rfl⟩ : ∃ g', g = g' + 1 := ⟨g - 1, by omega⟩
    obtain ⟨W, W1, W2, W0, W3⟩ := women_e S
    obtain ⟨b1, b2, b3, b4, b5, b6, b7, b8, b9, b10⟩ := id S
    have hn := b1.n6
    by_cases z : W ≤ w
    · have hk : I W ≤ I w := by rw [I_le (by omega) (by omega)]; omega
      refine ⟨s, t, ?_, ?_, S, Or.inr (fun v h1 h2 => hv v ?_)⟩
      · simp only [f_X6_serveWaiting_l2, f_X6_serveWaiting_l2b, S.2.2.1, S.2.2.2.1.1, gd_t, W0, if_pos hk]
      · simp only [f_X12_runs_l63, f_X12_runs_l63b, W3, if_pos hk]
      · rw [W3, I_lt (by omega) (by omega)] at h2; omega
    have hk : ¬ I W ≤ I w := by rw [I_le (by omega) (by omega)]; omega
    have ww : (I w).toNatClampNeg = w := I_nat (by omega)
    have w2 : inb (I w) 2 = true := inb_t (by omega) (by omega)
    have h2w : ¬ (2 : Int32) ≤ I w := by rw [show (2 : Int32) = I 2 from rfl, I_le (by omega) (by omega)]; omega
    obtain ⟨c1, c2⟩ := b8 w (by omega)
    by_cases z2 : I K < t.1 156 w
    · have z3 : ¬ t.1 156 w ≤ I K := Int32.not_le.mpr z2
      obtain ⟨s', t', d1, d2, d3, d4⟩ := ih (w + 1) (by omega) s t S (fun v hv' => by
        by_cases y : v = w
        · subst y; exact z2
        · exact hv v (by omega)) f' g' (by omega) (by omega)
      refine ⟨s', t', ?_, ?_, d3, d4⟩
      · simp only [f_X6_serveWaiting_l2, f_X6_serveWaiting_l2b, b3, b4.1, gd_t, W0, if_neg hk, if_neg h2w, w2, ww, c1, if_pos z2, ltb_t, I_succ, d1]
      · simp only [f_X12_runs_l63, f_X12_runs_l63b, W3, if_neg hk, w2, gd_t, ww, if_neg z3, ltb_t, I_succ, d2]
    have z3 : t.1 156 w ≤ I K := Int32.not_lt.mp z2
    obtain ⟨x, u, v, r1, r2, S2, fu, fv, r3, r4⟩ := r_next S (I K)
    rcases r3 with rfl | ⟨j, j1, rfl, j3⟩
    · -- nobody waits
      have nw := r4 rfl
      have hid := m_idle b1 b7 (I K) nw
      rw [r2] at hid
      have hv' : v = t := congrArg Prod.snd (Option.some.inj hid)
      subst hv'
      have hwt : ∀ i, i < n → ¬ waits i (I K) u v := fun i hi => by
        rw [waits_fr fu fv (by decide +kernel) (by decide +kernel)]; exact nw i hi
      refine ⟨u, v, ?_, ?_, S2, Or.inl hwt⟩
      · simp only [f_X6_serveWaiting_l2, f_X6_serveWaiting_l2b, b3, b4.1, gd_t, W0, if_neg hk, if_neg h2w, w2, ww, c1, if_neg z2, r1, bnd2_t, if_true]
      · exact m_idle_l S2 (I K) (Or.inl hwt) Kt (d + 1) w hw (g' + 1) hg
    · have j6 : inb (I j) 6 = true := inb_t (by omega) (by omega)
      have jj : (I j).toNatClampNeg = j := I_nat (by omega)
      have hw0 : v.1 150 j = -1 := by rw [fv.o (by decide +kernel)]; exact j3.2.1
      obtain ⟨y, s1, t1, q1, q2, S3, q4, q5, q6, q7⟩ := r_begin S2 j1 hK hw0
      have q4' : (sI t1 151 j (I K + y)).1 151 j = I K + y := sI_k _ _ _ _
      have fs : Fr [(80, 0)] s1 (sI s1 80 w (I K + y)) := fr_sI (wm_all (by decide) _)
      have ft : Fr [(156, 0)] (sI t1 151 j (I K + y)) (sI (sI t1 151 j (I K + y)) 156 w (I K + y)) := fr_sI (wm_all (by decide) _)
      have S4 : SR p a c h n (sI s1 80 w (I K + y)) (sI (sI t1 151 j (I K + y)) 156 w (I K + y)) := by
        refine S3.upd fs ft (okX7_av3 a (okX7_c b4.1) p (okX4_c b1.1)).1 (by decide) (by decide) (fun i hi => ?_) (fun v hv => ?_) ?_ ?_
        · rw [fs.o (by decide), fs.o (by decide), fs.o (by decide), ft.o (by decide), ft.o (by decide), ft.o (by decide)]
          exact (S3.2.2.2.2.2.2.1 i hi).2.2.2.2
        · rw [sI_s, sI_s]
          by_cases z : v = w
          · rw [if_pos z, if_pos z]; exact ⟨rfl, by omega⟩
          · rw [if_neg z, if_neg z]; exact S3.2.2.2.2.2.2.2.1 v hv
        · rw [fs.o (by decide), ft.o (by decide)]; exact S3.2.2.2.2.2.2.2.2.1
        · rw [fs.o (by decide)]; exact S3.2.2.2.2.2.2.2.2.2
      obtain ⟨s', t', d1, d2, d3, d4⟩ := ih (w + 1) (by omega) _ _ S4 (fun v' hv' => by
        rw [sI_s]
        by_cases y : v' = w
        · rw [if_pos y, Int32.lt_iff_toInt_lt, I_toInt (by omega)]; exact q5
        · rw [if_neg y, q7.o (by decide), fv.o (by decide +kernel)]; exact hv v' (by omega)) f' g' (by omega) (by omega)
      refine ⟨s', t', ?_, ?_, d3, d4⟩
      · simp only [f_X6_serveWaiting_l2, f_X6_serveWaiting_l2b, b3, b4.1, gd_t, W0, if_neg hk, if_neg h2w, w2, ww, c1, if_neg z2, r1, bnd2_t, if_neg (I_nn (show j < 2147483648 by omega)), q1, bnd_t, j6, jj, q4, ltb_t, I_succ, d1]
      · have j0 : (0 : Int32) ≤ I j := by rw [I0, I_le (by omega) (by omega)]; omega
        simp only [f_X12_runs_l63, f_X12_runs_l63b, W3, if_neg hk, w2, gd_t, ww, if_pos z3, r2, bnd2_t, if_pos j0, j6, jj, ltb_t, q2, q4', I_succ, d2]
theorem r_serve (S : SR p a c h n s t) {K : Nat} (hK : K ≤ 900) (Kt : HS → Option HS) : ∃ s' t', f_X6_serveWaiting (I K) s = some s' ∧ f_X12_runs_l63 (I K) Kt FU 0 t = Kt t' ∧ SR p a c h n s' t' ∧ IDL n (I K) s' t' := by
  obtain ⟨s', t', d1, d2, d3, d4⟩ := r_serve_l hK Kt 2 0 (by omega) s t S (fun v hv => by omega) FU FU (FU_lt (by omega)) (FU_lt (by omega))
  rw [← I0] at d1 d2
  exact ⟨s', t', d1, d2, d3, d4⟩
theorem imin_I {m K : Nat} {x : Int32} (h1 : K < m) (h2 : (K : Int) < x.toInt) (hm : m ≤ 900) : ∃ m', imin (I m) x = I m' ∧ K < m' ∧ m' ≤ m ∧ (m' : Int) ≤ x.toInt := by
  unfold imin
  by_cases z : x < I m
  · rw [if_pos z]
    rw [Int32.lt_iff_toInt_lt, I_toInt (by omega)] at z
    exact ⟨x.toInt.toNat, I_of (by omega), by omega, by omega, by omega⟩
  · rw [if_neg z]
    rw [Int32.lt_iff_toInt_lt, I_toInt (by omega)] at z
    exact ⟨m, rfl, h1, by omega, by omega⟩
/-- the next second at which somebody comes or a woman gets free -/
theorem r_nextSecond (S : SR p a c h n s t) {K st : Nat} (hst : t.1 103 3 = I st) (hs9 : st ≤ 900) (hK : K < st) :
    ∃ m, f_X6_nextSecond (I K) s = some (I m) ∧ K < m ∧ m ≤ st ∧ (∀ i, i < n → ¬ ((t.1 145 0) >>> (I i &&& 31)) &&& (1 : Int32) = 0 → (K : Int) < (s.1 74 i).toInt → (m : Int) ≤ (s.1 74 i).toInt) ∧ ∀ w, w < 2 → (K : Int) < (t.1 156 w).toInt → (m : Int) ≤ (t.1 156 w).toInt := by
  obtain ⟨b1, b2, b3, b4, b5, b6, b7, b8, b9, b10⟩ := id S
  have hn := b1.n6
  have o1 : s.1 a 0 = t.1 145 0 := b4.2.1.1
  have est : s.1 p 0 = I st := by have := b1.sc.1.1; rw [this]; simpa using hst
  -- the women
  have women : ∀ d w, w + d = 2 → ∀ m f, d < f → K < m → m ≤ 900 → ∃ m', f_X6_nextSecond_l58 (I K) s f (I m) (I w) = some (I m') ∧ K < m' ∧ m' ≤ m ∧ ∀ v, w ≤ v → v < 2 → (K : Int) < (t.1 156 v).toInt → (m' : Int) ≤ (t.1 156 v).toInt := by
    intro d
    induction d with
    | zero =>
      intro w hw m f hf h1 h2
      obtain ⟨f', rfl⟩ : ∃ f', f = f' + 1 := ⟨f - 1, by omega⟩
      have h2w : (2 : Int32) ≤ I w := by rw [show (2 : Int32) = I 2 from rfl, I_le (by omega) (by omega)]; omega
      exact ⟨m, by simp only [f_X6_nextSecond_l58, f_X6_nextSecond_l58b, if_pos h2w], h1, by omega, fun v h3 h4 => by omega⟩
    | succ d ih =>
      intro w hw m f hf h1 h2
      obtain ⟨f', rfl⟩ : ∃ f', f = f' + 1 := ⟨f - 1, by omega⟩
      have h2w : ¬ (2 : Int32) ≤ I w := by rw [show (2 : Int32) = I 2 from rfl, I_le (by omega) (by omega)]; omega
      have ww : (I w).toNatClampNeg = w := I_nat (by omega)
      have w2 : inb (I w) 2 = true := inb_t (by omega) (by omega)
      obtain ⟨c1, c2⟩ := b8 w (by omega)
      by_cases z : t.1 156 w ≤ I K
      · obtain ⟨m', e1, e2, e3, e4⟩ := ih (w + 1) (by omega) m f' (by omega) h1 h2
        refine ⟨m', by simp only [f_X6_nextSecond_l58, f_X6_nextSecond_l58b, if_neg h2w, w2, gd_t, ww, c1, if_pos z, ltb_t, I_succ, e1], e2, e3, fun v h3 h4 h5 => ?_⟩
        by_cases y : v = w
        · subst y
          rw [Int32.le_iff_toInt_le, I_toInt (by omega)] at z
          omega
        · exact e4 v (by omega) h4 h5
      · have z' := z
        rw [Int32.le_iff_toInt_le, I_toInt (by omega)] at z'
        obtain ⟨m1, g1, g2, g3, g4⟩ := imin_I (x := t.1 156 w) h1 (by omega) h2
        obtain ⟨m', e1, e2, e3, e4⟩ := ih (w + 1) (by omega) m1 f' (by omega) g2 (by omega)
        refine ⟨m', by simp only [f_X6_nextSecond_l58, f_X6_nextSecond_l58b, if_neg h2w, w2, gd_t, ww, c1, if_neg z, ltb_t, g1, I_succ, e1], e2, by omega, fun v h3 h4 h5 => ?_⟩
        by_cases y : v = w
        · subst y; omega
        · exact e4 v (by omega) h4 h5
  have buyers : ∀ d k, k + d = n → ∀ m f, d < f → K < m → m ≤ 900 → ∃ m', (∀ Q : Int32 → Option Int32, f_X6_nextSecond_l10 (I K) Q s f (I m) (I k) = Q (I m')) ∧ K < m' ∧ m' ≤ m ∧ ∀ i, k ≤ i → i < n → ¬ ((t.1 145 0) >>> (I i &&& 31)) &&& (1 : Int32) = 0 → (K : Int) < (s.1 74 i).toInt → (m' : Int) ≤ (s.1 74 i).toInt := by
    intro d
    induction d with
    | zero =>
      intro k hk m f hf h1 h2
      obtain ⟨f', rfl⟩ : ∃ f', f = f' + 1 := ⟨f - 1, by omega⟩
      have hk : k = n := by omega
      subst hk
      exact ⟨m, fun Q => by simp only [f_X6_nextSecond_l10, f_X6_nextSecond_l10b, b2, b1.1, gd_t, b1.nc, if_pos (Int32.le_refl _)], h1, by omega, fun v h3 h4 => by omega⟩
    | succ d ih =>
      intro k hk m f hf h1 h2
      obtain ⟨f', rfl⟩ : ∃ f', f = f' + 1 := ⟨f - 1, by omega⟩
      have hk2 : ¬ I n ≤ I k := by rw [I_le (by omega) (by omega)]; omega
      have kk : (I k).toNatClampNeg = k := I_nat (by omega)
      have k6 : inb (I k) 6 = true := inb_t (by omega) (by omega)
      by_cases z1 : ((t.1 145 0) >>> (I k &&& 31)) &&& (1 : Int32) = 0
      · obtain ⟨m', e1, e2, e3, e4⟩ := ih (k + 1) (by omega) m f' (by omega) h1 h2
        refine ⟨m', fun Q => by simp only [f_X6_nextSecond_l10, f_X6_nextSecond_l10b, f_X6_isOut, b2, b3, b1.1, b4.1, gd_t, b1.nc, if_neg hk2, o1, if_pos z1, bnd_t, if_true, ltb_t, I_succ, e1], e2, e3, fun i h3 h4 h5 h6 => ?_⟩
        by_cases y : i = k
        · subst y; exact absurd z1 h5
        · exact e4 i (by omega) h4 h5 h6
      · by_cases z : s.1 74 k ≤ I K
        · obtain ⟨m', e1, e2, e3, e4⟩ := ih (k + 1) (by omega) m f' (by omega) h1 h2
          refine ⟨m', fun Q => by simp only [f_X6_nextSecond_l10, f_X6_nextSecond_l10b, f_X6_isOut, b2, b3, b1.1, b4.1, gd_t, b1.nc, if_neg hk2, o1, if_neg z1, bnd_t, if_neg one_ne, k6, kk, if_pos z, ltb_t, I_succ, e1], e2, e3, fun i h3 h4 h5 h6 => ?_⟩
          by_cases y : i = k
          · subst y
            rw [Int32.le_iff_toInt_le, I_toInt (by omega)] at z
            omega
          · exact e4 i (by omega) h4 h5 h6
        · have z' := z
          rw [Int32.le_iff_toInt_le, I_toInt (by omega)] at z'
          obtain ⟨m1, g1, g2, g3, g4⟩ := imin_I (x := s.1 74 k) h1 (by omega) h2
          obtain ⟨m', e1, e2, e3, e4⟩ := ih (k + 1) (by omega) m1 f' (by omega) g2 (by omega)
          refine ⟨m', fun Q => by simp only [f_X6_nextSecond_l10, f_X6_nextSecond_l10b, f_X6_isOut, b2, b3, b1.1, b4.1, gd_t, b1.nc, if_neg hk2, o1, if_neg z1, bnd_t, if_neg one_ne, k6, kk, if_neg z, ltb_t, g1, I_succ, e1], e2, by omega, fun i h3 h4 h5 h6 => ?_⟩
          by_cases y : i = k
          · subst y; omega
          · exact e4 i (by omega) h4 h5 h6
  obtain ⟨m1, e1, e2, e3, e4⟩ := buyers n 0 (by omega) st FU (FU_lt (by omega)) hK hs9
  obtain ⟨m2, g1, g2, g3, g4⟩ := women 2 0 (by omega) m1 FU (FU_lt (by omega)) e2 (by omega)
  refine ⟨m2, ?_, g2, by omega, fun i hi h5 h6 => ?_, fun w hw h5 => g4 w (by omega) hw h5⟩
  · unfold f_X6_nextSecond
    rw [b2, b1.1, gd_t, est, ltb_t, I0, e1, g1]
  · have := e4 i (by omega) hi h5 h6
    omega
/-- between the events nothing begins -/
theorem IDL.later {K m T : Nat} (S : SR p a c h n s t) (hi : IDL n (I K) s t) (hT : K < T ∧ T < m) (hm : m ≤ 900) (h1 : ∀ i, i < n → ¬ ((t.1 145 0) >>> (I i &&& 31)) &&& (1 : Int32) = 0 → (K : Int) < (s.1 74 i).toInt → (m : Int) ≤ (s.1 74 i).toInt) (h2 : ∀ w, w < 2 → (K : Int) < (t.1 156 w).toInt → (m : Int) ≤ (t.1 156 w).toInt) : IDL n (I T) s t := by
  rcases hi with hi | hi
  · refine Or.inl (fun i h3 h4 => hi i h3 ⟨h4.1, h4.2.1, fun z => h4.2.2.1 ?_, ?_⟩)
    · rw [Int32.lt_iff_toInt_lt, I_toInt (by omega)] at z ⊢
      have := h1 i h3 h4.1 z
      omega
    · have := h4.2.2.2
      rw [Int32.lt_iff_toInt_lt, I_toInt (by omega)] at this ⊢
      omega
  · refine Or.inr (fun w h3 h4 => ?_)
    have := hi w h3 h4
    rw [Int32.lt_iff_toInt_lt, I_toInt (by omega)] at this ⊢
    have := h2 w h3 this
    omega
theorem m_idle_t (S : SR p a c h n s t) {st : Nat} (hst : t.1 103 3 = I st) (hs9 : st ≤ 900) (K0 : HS → Option HS) {m : Nat} (hm : m ≤ st + 1) : ∀ d T, T + d = m → (∀ T', T ≤ T' → T' < m → IDL n (I T') s t) → ∀ g, f_X12_runs_l51 K0 (g + d) (I T) t = f_X12_runs_l51 K0 g (I m) t := by
  intro d
  induction d with
  | zero =>
    intro T hT _ g
    have : T = m := by omega
    rw [this]; rfl
  | succ d ih =>
    intro T hT hi g
    have hk : ¬ I st < I T := by rw [I_lt (by omega) (by omega)]; omega
    show f_X12_runs_l51 K0 (g + d + 1) (I T) t = _
    simp only [f_X12_runs_l51, f_X12_runs_l51b, hst, if_neg hk]
    rw [I0, m_idle_l S (I T) (hi T (by omega) (by omega)) _ 2 0 (by omega) FU (FU_lt (by omega)), ltb_t, I_succ]
    exact ih (T + 1) (by omega) (fun T' h1 h2 => hi T' (by omega) h2) g
/-- the round's seconds, of both -/
theorem r_seconds (Q0 : HS → Option HS) (K0 : HS → Option HS) {st : Nat} (hs9 : st ≤ 900) : ∀ d K, st - K ≤ d → K ≤ st → ∀ (s t : HS), SR p a c h n s t → t.1 103 3 = I st → ∀ J, J ≤ K → ∀ f g, st - K < f → st - K + 1 < g →
    ∃ s' t', f_X6_play_l8 Q0 f (I K) (I J) s = Q0 s' ∧ f_X12_runs_l51 K0 g (I K) t = K0 t' ∧ SR p a c h n s' t' ∧ Fr L_X6_serveWaiting s s' := by
  intro d
  induction d with
  | zero =>
    intro K h1 h2 s t S hst J hJ f g hf hg
    obtain ⟨f', rfl⟩ : ∃ f', f = f' + 1 := ⟨f - 1, by omega⟩
    obtain ⟨g', rfl⟩ : ∃ g', g = g' + 1 + 1 := ⟨g - 2, by omega⟩
    have hK : K = st := by omega
    subst hK
    have est : s.1 p 0 = I K := by have := S.1.sc.1.1; rw [this]; simpa using hst
    refine ⟨s, t, ?_, ?_, S, Fr.refl⟩
    · have h9 : ¬ (900 : Int32) < I J := by rw [show (900 : Int32) = I 900 from rfl, I_lt (by omega) (by omega)]; omega
      simp only [f_X6_play_l8, f_X6_play_l8b, if_neg h9, S.2.1, S.1.1, gd_t, est, if_pos (Int32.le_refl _)]
    · have idl : IDL n (I K) s t := Or.inl (fun i hi hw => by
        have := hw.2.2.2
        have := (S.2.2.2.2.2.2.1 i hi).2.2.2.1.2
        rw [hst, I_toInt (by omega)] at this
        rw [Int32.lt_iff_toInt_lt, I_toInt (by omega)] at *
        omega)
      have hk : ¬ I K < I K := Int32.lt_irrefl
      have hk1 : I K < I (K + 1) := by rw [I_lt (by omega) (by omega)]; omega
      simp only [f_X12_runs_l51, f_X12_runs_l51b, hst, if_neg hk]
      rw [I0, m_idle_l S (I K) idl _ 2 0 (by omega) FU (FU_lt (by omega)), ltb_t, I_succ, hst, if_pos hk1]
  | succ d ih =>
    intro K h1 h2 s t S hst J hJ f g hf hg
    by_cases hK : K = st
    · exact ih K (by omega) h2 s t S hst J hJ f g (by omega) (by omega)
    obtain ⟨f', rfl⟩ : ∃ f', f = f' + 1 := ⟨f - 1, by omega⟩
    obtain ⟨g', rfl⟩ : ∃ g', g = g' + 1 := ⟨g - 1, by omega⟩
    have est : s.1 p 0 = I st := by have := S.1.sc.1.1; rw [this]; simpa using hst
    have h9 : ¬ (900 : Int32) < I J := by rw [show (900 : Int32) = I 900 from rfl, I_lt (by omega) (by omega)]; omega
    have hk : ¬ I st ≤ I K := by rw [I_le (by omega) (by omega)]; omega
    have hk2 : ¬ I st < I K := by rw [I_lt (by omega) (by omega)]; omega
    obtain ⟨s1, t1, e1, e2, S1, e4⟩ := r_serve S (K := K) (by omega) (fun s33 => ltb (I K + 1) fun x34 => f_X12_runs_l51 K0 g' x34 s33)
    have hs1 : Fr L_X6_serveWaiting s s1 := w_X6_serveWaiting (I K) s s1 e1
    have hst1 : t1.1 103 3 = I st := by
      have q := S1.1.sc.1.1
      rw [hs1.1 p 0 (by rcases okX4_c S.1.1 with rfl | rfl <;> decide +kernel), est] at q
      simpa using q.symm
    obtain ⟨m, m1, m2, m3, m4, m5⟩ := r_nextSecond S1 hst1 hs9 (K := K) (by omega)
    obtain ⟨s', t', d1, d2, d3, d9⟩ := ih m (by omega) m3 s1 t1 S1 hst1 (J + 1) (by omega) f' (g' - (m - (K + 1))) (by omega) (by omega)
    refine ⟨s', t', ?_, ?_, d3, hs1.trans d9⟩
    · simp only [f_X6_play_l8, f_X6_play_l8b, if_neg h9, S.2.1, S.1.1, gd_t, est, if_neg hk, e1, bnd_t, m1, ltb_t, I_succ, d1]
    · have e0 : f_X12_runs_l51 K0 (g' + 1) (I K) t = f_X12_runs_l63 (I K) (fun s33 => ltb (I K + 1) fun x34 => f_X12_runs_l51 K0 g' x34 s33) FU 0 t := by
        simp only [f_X12_runs_l51, f_X12_runs_l51b, hst, if_neg hk2]
      rw [e0, e2, ltb_t, I_succ]
      have := m_idle_t S1 hst1 hs9 K0 (m := m) (by omega) (m - (K + 1)) (K + 1) (by omega) (fun T' h3 h4 => IDL.later S1 e4 ⟨by omega, h4⟩ (by omega) m4 m5) (g' - (m - (K + 1)))
      rw [show g' - (m - (K + 1)) + (m - (K + 1)) = g' by omega] at this
      rw [this, d2]
end LOOP
