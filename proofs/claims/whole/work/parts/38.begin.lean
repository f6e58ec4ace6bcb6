/-! One begins to be served -/
theorem sI_s (s : HS) (o k : Nat) (x : Int32) (k' : Nat) : (sI s o k x).1 o k' = if k' = k then x else s.1 o k' := by
  show up2 s.1 o k x o k' = _
  unfold up2
  rw [if_pos (Eq.refl _)]
theorem sI_k (s : HS) (o k : Nat) (x : Int32) : (sI s o k x).1 o k = x := by rw [sI_s, if_pos (Eq.refl _)]
theorem sI_n (s : HS) {o o' : Nat} (k : Nat) (x : Int32) (h : o' ≠ o) : (sI s o k x).1 o' = s.1 o' := by
  refine funext fun k' => ?_
  show up2 s.1 o k x o' k' = _
  unfold up2
  rw [if_neg h]
theorem orb : ∀ k, k < 64 → ∀ j, j < 6 → I k ||| ((1 : Int32) <<< (I j &&& 31)) = I (k ||| 2 ^ j) := by decide +kernel
theorem bitb : ∀ k, k < 64 → ∀ j, j < 6 → ((I k) >>> (I j &&& 31)) &&& 1 = if k.testBit j then 1 else 0 := by decide +kernel
theorem wbits_e {w : Nat → Int32} {h : Nat} (hh : h ≤ 5) : ∀ {m : Nat}, (∀ k, k < m → ∃ q, q < h ∧ w k = I q) → ∃ b, b < 2 ^ h ∧ wbits w m = I b ∧ ∀ q, q < 6 → (b.testBit q = true ↔ ∃ k, k < m ∧ w k = I q) := by
  intro m
  induction m with
  | zero => intro _; exact ⟨0, Nat.two_pow_pos _, rfl, fun q _ => by simp⟩
  | succ m ih =>
    intro hw
    obtain ⟨b, b1, b2, b3⟩ := ih (fun k hk => hw k (by omega))
    obtain ⟨q, q1, q2⟩ := hw m (by omega)
    have b64 : b < 64 := Nat.lt_of_lt_of_le b1 ((Nat.pow_le_pow_right (by omega) (by omega) : 2 ^ h ≤ 2 ^ 6))
    refine ⟨b ||| 2 ^ q, Nat.or_lt_two_pow b1 (Nat.pow_lt_pow_right (by omega) q1), ?_, fun r hr => ?_⟩
    · show wbits w m ||| ((1 : Int32) <<< (w m &&& 31)) = _
      rw [b2, q2]
      exact orb b b64 q (by omega)
    · rw [Nat.testBit_or, Bool.or_eq_true, b3 r hr, Nat.testBit_two_pow]
      constructor
      · rintro (⟨k, k1, k2⟩ | e)
        · exact ⟨k, by omega, k2⟩
        · have : q = r := by simpa using e
          subst this
          exact ⟨m, by omega, q2⟩
      · rintro ⟨k, k1, k2⟩
        by_cases z : k = m
        · subst z
          rw [q2] at k2
          have := (I_inj (by omega) (by omega)).mp k2
          exact Or.inr (by simpa using this)
        · exact Or.inl ⟨k, by omega, k2⟩
theorem psum_b {g : Nat → Int32} : ∀ {n : Nat}, n ≤ 6 → (∀ k, k < n → 0 ≤ (g k).toInt ∧ (g k).toInt ≤ 180) → 0 ≤ (psum g n).toInt ∧ (psum g n).toInt ≤ 180 * n ∧ ∀ i, i < n → (g i).toInt ≤ (psum g n).toInt := by
  intro n
  induction n with
  | zero => intro _ _; exact ⟨Int.le_refl _, Int.le_refl _, fun i hi => by omega⟩
  | succ n ih =>
    intro hn hg
    obtain ⟨a1, a2, a3⟩ := ih (by omega) (fun k hk => hg k (by omega))
    obtain ⟨b1, b2⟩ := hg n (by omega)
    have e : (psum g (n + 1)).toInt = (psum g n).toInt + (g n).toInt := ti_add (by omega) (by omega)
    refine ⟨by omega, by omega, fun i hi => ?_⟩
    by_cases z : i = n
    · subst z; omega
    · have := a3 i (by omega); omega
section BEGIN
variable {p a c h n : Nat} {s t : HS}
/-- whether he wants what stands poured -/
theorem r_wants (P : PL p 0 c h n s t) {i q : Nat} (hi : i < n) (hq : q < h) : ∃ b : Bool, ((s.1 (bS p i) 7 >>> (I q &&& 31)) &&& 1 = if b then 1 else 0) ∧ (∀ t' : HS, t'.1 117 = t.1 117 → t'.1 118 = t.1 118 → f_X12_wants (I i) (I q) t' = some (if b then 1 else 0)) ∧ (b = true → ∃ m, t.1 118 i = I m ∧ m ≤ 3 ∧ ∃ k, k < m ∧ t.1 117 (3 * i + k) = I q) := by
  have hn := P.n6
  have i12 : inb (I i) 12 = true := inb_t (by omega) (by omega)
  have ii : (I i).toNatClampNeg = i := I_nat (by omega)
  obtain ⟨m, m1, m2, m3, m4, m5, -, m7⟩ := P.want hi
  obtain ⟨b, b1, b2, b3⟩ := wbits_e hn.2.1 (w := fun k => t.1 117 (3 * i + k)) (m := m) (fun k hk => by obtain ⟨w, w1, -, w3⟩ := m5 k hk; exact ⟨w, w1, w3⟩)
  have b64 : b < 64 := Nat.lt_of_lt_of_le b1 ((Nat.pow_le_pow_right (by omega) (by omega) : 2 ^ h ≤ 2 ^ 6))
  refine ⟨b.testBit q, ?_, fun t' e1 e2 => ?_, fun e => ?_⟩
  · rw [m7, b2, bitb b b64 q (by omega)]
  · have key : ∀ d k, k + d = m → (∀ k', k' < k → t.1 117 (3 * i + k') ≠ I q) → ∀ f, d < f → f_X12_wants_l2 (I i) (I q) t' f (I k) = some (if b.testBit q then 1 else 0) := by
      intro d
      induction d with
      | zero =>
        intro k hk hno f hf
        obtain ⟨f', rfl⟩ : ∃ f', f = f' + 1 := ⟨f - 1, by omega⟩
        have hk : k = m := by omega
        subst hk
        have nb : ¬ b.testBit q = true := by
          rw [b3 q (by omega)]
          rintro ⟨k', h1, h2⟩
          exact hno k' h1 h2
        simp only [f_X12_wants_l2, f_X12_wants_l2b, i12, gd_t, ii, e2, m4, if_pos (Int32.le_refl _), if_neg nb]
      | succ d ih =>
        intro k hk hno f hf
        obtain ⟨f', rfl⟩ : ∃ f', f = f' + 1 := ⟨f - 1, by omega⟩
        have hkm : ¬ I m ≤ I k := by rw [I_le (by omega) (by omega)]; omega
        have k36 : inb (I (3 * i + k)) 36 = true := inb_t (by omega) (by omega)
        have kk2 : (I (3 * i + k)).toNatClampNeg = 3 * i + k := I_nat (by omega)
        by_cases z : t.1 117 (3 * i + k) = I q
        · have yb : b.testBit q = true := (b3 q (by omega)).mpr ⟨k, by omega, z⟩
          simp only [f_X12_wants_l2, f_X12_wants_l2b, i12, gd_t, ii, e2, m4, if_neg hkm, I_3, k36, kk2, e1, if_pos z, if_pos yb]
        · simp only [f_X12_wants_l2, f_X12_wants_l2b, i12, gd_t, ii, e2, m4, if_neg hkm, I_3, k36, kk2, e1, if_neg z, ltb_t, I_succ]
          refine ih (k + 1) (by omega) (fun k' hk' => ?_) f' (by omega)
          by_cases y : k' = k
          · subst y; exact z
          · exact hno k' (by omega)
    have := key m 0 (by omega) (fun k' hk' => by omega) FU (FU_lt (by omega))
    unfold f_X12_wants
    rw [← I0] at this
    exact this
  · obtain ⟨k, k1, k2⟩ := (b3 q (by omega)).mp e
    exact ⟨m, m4, m2, k, k1, k2⟩
/-- how long it takes: the sum of secs ahead of what stands poured -/
theorem r_sum (P : PL p 0 c h n s t) (hp : s.2.2.2.2.1 = p) (Q : QR h n s t) {i : Nat} (hi : i < n) : ∃ y ys : Int32, (∀ (T w : Int32) (K : Int32 → HS → Option HS), f_X6_begin_l31 (I i) T K FU w 0 s = K (w + y) s) ∧ 1 ≤ y.toInt ∧ y.toInt ≤ 1080 ∧ f_X12_secsOf (I i) t = some ys ∧
    ((I i = t.1 101 62 ∧ s.1 73 5 = -1 ∧ ∀ (w : Int32) (t' : HS), Fr [(150, 0)] t t' → f_X12_lastsFor_l32 FU w 0 t' = some (w + y, t')) ∨ (¬ I i = t.1 101 62 ∧ y = ys)) := by
  have hn := P.n6
  obtain ⟨yi, a1, a2, a3, a4, -⟩ := r_secs P hi
  have gs : ∀ j, j < n → ∃ y : Int32, f_X4_secsFor p (I j) s = some y ∧ f_X12_secsOf (I j) t = some y ∧ 1 ≤ y.toInt ∧ y.toInt ≤ 180 := fun j hj => by
    obtain ⟨y, q1, q2, q3, q4, -⟩ := r_secs P hj
    exact ⟨y, q1, q2, q3, q4⟩
  have cls : ∀ (g : Nat → Int32), (∀ j, j < n → ∀ y, f_X4_secsFor p (I j) s = some y → g j = if f_X6_wantsToo (I i) (I j) s = 0 then 0 else y) → ∀ (T w : Int32) (K : Int32 → HS → Option HS), f_X6_begin_l31 (I i) T K FU w 0 s = K (w + psum g n) s := by
    intro g hg T w K
    exact sumK (fun f x k => f_X6_begin_l31 (I i) T K f x k s) (fun x => K x s) g n (by omega) (fun k hk f x => by
      have hk2 : ¬ I n ≤ I k := by rw [I_le (by omega) (by omega)]; omega
      obtain ⟨y, y1, -⟩ := gs k hk
      have := hg k hk y y1
      by_cases z : f_X6_wantsToo (I i) (I k) s = 0
      · rw [if_pos z] at this
        simp only [f_X6_begin_l31, f_X6_begin_l31b, hp, P.1, gd_t, P.nc, if_neg hk2, if_pos z, ltb_t, I_succ, this]
      · rw [if_neg z] at this
        simp only [f_X6_begin_l31, f_X6_begin_l31b, hp, P.1, gd_t, P.nc, if_neg hk2, if_neg z, ltb_t, I_succ, y1, bnd_t, this])
      (fun f x => by simp only [f_X6_begin_l31, f_X6_begin_l31b, hp, P.1, gd_t, P.nc, if_pos (Int32.le_refl _)]) w
  rcases r_wt Q hn.2.1 hn.2.2 hi with ⟨e1, e2⟩ | ⟨e1, e3, -, e2⟩
  · refine ⟨yi, yi, ?_, a3, by omega, a2, Or.inr ⟨e1, rfl⟩⟩
    intro T w K
    rw [cls (fun j => if i = j then yi else 0) (fun j hj y hy => ?_), psum_1 hi]
    rw [e2 j hj]
    by_cases z : i = j
    · subst z
      rw [a1] at hy
      rw [if_pos (Eq.refl _), if_pos (Eq.refl _), if_neg one_ne]
      exact Option.some.inj hy
    · rw [if_neg z, if_neg z, if_pos (Eq.refl _)]
  · let g : Nat → Int32 := fun j => if ((t.1 101 63) >>> (I j &&& 31)) &&& 1 = 1 then (f_X12_secsOf (I j) t).getD 0 else 0
    have hg : ∀ j, j < n → 0 ≤ (g j).toInt ∧ (g j).toInt ≤ 180 := by
      intro j hj
      obtain ⟨y, -, y2, y3, y4⟩ := gs j hj
      show 0 ≤ (if _ then _ else _ : Int32).toInt ∧ (if _ then _ else _ : Int32).toInt ≤ 180
      rw [y2]
      split
      · exact ⟨by simpa using (by omega : 0 ≤ y.toInt), by simpa using y4⟩
      · exact ⟨by decide, by decide⟩
    obtain ⟨s1, s2, s3⟩ := psum_b hn.2.2 hg
    have gi : g i = yi := by
      obtain ⟨-, q1, -⟩ := Q
      show (if _ then _ else _ : Int32) = _
      rw [a2]
      rcases q1 with ⟨-, z⟩ | ⟨k, k1, z1, z2, z3, z4, z5⟩
      · rw [z] at e1; exact absurd e1 (I_nn (by omega))
      · rw [z2] at e1
        have := (I_inj (by omega) (by omega)).mp e1
        subst this
        rw [if_pos z4]; rfl
    refine ⟨psum g n, yi, ?_, ?_, ?_, a2, Or.inl ⟨e1, e3, fun w t' ft => ?_⟩⟩
    · refine cls g (fun j hj y hy => ?_)
      rw [e2 j hj]
      obtain ⟨y', y1, y2, -⟩ := gs j hj
      rw [y1] at hy
      have hy := Option.some.inj hy
      subst hy
      show (if _ then _ else _ : Int32) = _
      rw [y2]
      rcases and1 ((t.1 101 63) >>> (I j &&& 31)) with q | q
      · rw [q, if_pos (Eq.refl _), if_neg (by decide)]
      · rw [q, if_neg one_ne, if_pos (Eq.refl _)]; rfl
    · have := s3 i hi; rw [gi] at this; omega
    · omega
    · have e101 : t'.1 101 = t.1 101 := ft.o (by decide)
      have e103 : t'.1 103 = t.1 103 := ft.o (by decide)
      have e109 : t'.1 109 = t.1 109 := ft.o (by decide)
      have e117 : t'.1 117 = t.1 117 := ft.o (by decide)
      have e118 : t'.1 118 = t.1 118 := ft.o (by decide)
      have P' : PL p 0 c h n s t' := P.fr (L := []) Fr.refl ft (by rcases okX4_c P.1 with rfl | rfl <;> decide) (by decide)
      refine sumK (fun f x k => f_X12_lastsFor_l32 f x k t') (fun x => some (x, t')) g n (by omega) (fun k hk f x => ?_) (fun f x => ?_) w
      · have hk2 : ¬ I n ≤ I k := by rw [I_le (by omega) (by omega)]; omega
        obtain ⟨y, y1, y2, -⟩ := gs k hk
        obtain ⟨y', z1, z2, -⟩ := r_secs P' hk
        rw [y1] at z1
        have hy := Option.some.inj z1
        subst hy
        have gk : g k = if ((t.1 101 63) >>> (I k &&& 31)) &&& 1 = 1 then y else 0 := by
          show (if _ then _ else _ : Int32) = _
          rw [y2]; rfl
        by_cases z : ((t.1 101 63) >>> (I k &&& 31)) &&& 1 = 1
        · rw [if_pos z] at gk
          simp only [f_X12_lastsFor_l32, f_X12_lastsFor_l32b, e103, e101, P.nm, if_neg hk2, if_pos z, z2, bnd_t, ltb_t, I_succ, gk]
        · rw [if_neg z] at gk
          simp only [f_X12_lastsFor_l32, f_X12_lastsFor_l32b, e103, e101, P.nm, if_neg hk2, if_neg z, ltb_t, I_succ, gk]
      · simp only [f_X12_lastsFor_l32, f_X12_lastsFor_l32b, e103, P.nm, if_pos (Int32.le_refl _)]
end BEGIN
