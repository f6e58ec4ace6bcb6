/-! Who is served before whom: order's value -/
def psum (g : Nat → Int32) : Nat → Int32
  | 0 => 0
  | m + 1 => psum g m + g m
theorem psum_congr {g g' : Nat → Int32} : ∀ {n : Nat}, (∀ k, k < n → g k = g' k) → psum g n = psum g' n := by
  intro n
  induction n with
  | zero => intro _; rfl
  | succ n ih => intro h; show psum g n + g n = psum g' n + g' n; rw [ih (fun k hk => h k (by omega)), h n (by omega)]
theorem psum_0 {g : Nat → Int32} : ∀ {n : Nat}, (∀ k, k < n → g k = 0) → psum g n = 0 := by
  intro n
  induction n with
  | zero => intro _; rfl
  | succ n ih => intro h; show psum g n + g n = 0; rw [ih (fun k hk => h k (by omega)), h n (by omega), Int32.add_zero]
theorem psum_1 {y : Int32} {i : Nat} : ∀ {n : Nat}, i < n → psum (fun k => if i = k then y else 0) n = y := by
  intro n
  induction n with
  | zero => intro h; omega
  | succ n ih =>
    intro h
    show psum _ n + (if i = n then y else 0) = y
    by_cases q : i = n
    · rw [if_pos q, psum_0 (fun k hk => if_neg (by omega)), Int32.zero_add]
    · rw [if_neg q, ih (by omega), Int32.add_zero]
theorem sumK {β : Type} (F : Nat → Int32 → Int32 → β) (K : Int32 → β) (g : Nat → Int32) (n : Nat) (hn : n < 4000) (hs : ∀ k, k < n → ∀ f a, F (f + 1) a (I k) = F f (a + g k) (I (k + 1))) (e : ∀ f a, F (f + 1) a (I n) = K a) : ∀ a, F FU a 0 = K (a + psum g n) := by
  intro a
  have key : ∀ d k, k + d = n → ∀ f, d < f → F f (a + psum g k) (I k) = K (a + psum g n) := by
    intro d
    induction d with
    | zero =>
      intro k hk f hf
      obtain ⟨f', rfl⟩ : ∃ f', f = f' + 1 := ⟨f - 1, by omega⟩
      have hk : k = n := by omega
      subst hk
      exact e f' _
    | succ d ih =>
      intro k hk f hf
      obtain ⟨f', rfl⟩ : ∃ f', f = f' + 1 := ⟨f - 1, by omega⟩
      rw [hs k (by omega), Int32.add_assoc]
      exact ih (k + 1) (by omega) f' (by omega)
  have := key n 0 (by omega) FU (FU_lt (by omega))
  rw [show psum g 0 = 0 from rfl, Int32.add_zero, ← I0] at this
  exact this
def OCv (q : Nat) (E : Int32 → Int32 → Int32 → Int32 → Int32) (s : HS) : Prop := ∀ (s' : HS) (a b c d : Int32), s'.1 q 1 = s.1 q 1 → s'.1 (Rf q 0) = s.1 (Rf q 0) → ∃ u, f_X2_value q a b c d s' = some (E a b c d, u)
def OMv (E : Int32 → Int32 → Int32 → Int32 → Int32) (t : HS) : Prop := (¬ t.1 121 0 = t.1 120 0 → ∀ (t' : HS), t'.1 120 0 = t.1 120 0 → t'.1 121 0 = t.1 121 0 → (∀ k, k < 1000 → t'.1 122 k = t.1 122 k) → ∃ u, f_X12_worked 0 t' = some (E (t'.1 134 1) (t'.1 134 2) (t'.1 134 3) (t'.1 134 4), u)) ∧ (t.1 121 0 = t.1 120 0 → ∀ a b c d, E a b c d = 0)
def OR (p : Nat) (s t : HS) : Prop := ∃ E, OCv (Rf p 8) E s ∧ OMv E t
def av4 (M : List (Nat × Nat)) : Bool := !wo M 120 && !wo M 121 && !wo M 122
theorem oS_e {p : Nat} (hp : okX4 p = true) : Rf p 8 = p + 2 ∧ Rf (Rf p 8) 0 = p + 3 := by rcases okX4_c hp with rfl | rfl <;> decide
theorem OR.fr {p : Nat} {s t s' t' : HS} {L M : List (Nat × Nat)} (O : OR p s t) (hp : okX4 p = true) (f : Fr L s s') (g : Fr M t t') (h1 : av1 p L = true) (h2 : av4 M = true) : OR p s' t' := by
  obtain ⟨E, o1, o2, o3⟩ := O
  simp only [av4, Bool.and_eq_true, Bool.not_eq_true'] at h2
  refine ⟨E, ?_, ?_, ?_⟩
  · intro u a b c d e1 e2
    obtain ⟨q1, q2⟩ := oS_e hp
    refine o1 u a b c d ?_ ?_
    · rw [e1, q1, av1_o h1 f (k := 2) (by omega) (by omega)]
    · rw [e2, q2, av1_o h1 f (k := 3) (by omega) (by omega)]
  · intro ne u e1 e2 e3
    refine o2 (fun z => ne (by rw [g.o h2.1.1, g.o h2.1.2]; exact z)) u ?_ ?_ ?_
    · rw [e1, g.o h2.1.1]
    · rw [e2, g.o h2.1.2]
    · intro k hk; rw [e3 k hk, g.o h2.2]
  · rw [g.o h2.1.1, g.o h2.1.2]; exact o3
/-- the reference's own functions, over frames -/
def av3 (M : List (Nat × Nat)) : Bool := av2 M && !wo M 145
theorem av3_e {M : List (Nat × Nat)} (h : av3 M = true) : av2 M = true ∧ wo M 145 = false := by simpa [av3] using h
theorem away_s (x y : Int32) (s s' : HS) : f_X12_away x y s = f_X12_away x y s' := by unfold f_X12_away; exact Eq.refl _
theorem way_fr {t t' : HS} {M : List (Nat × Nat)} (g : Fr M t t') (h : av3 M = true) (v : Int32) : f_X12_wayOf v t' = f_X12_wayOf v t := by
  obtain ⟨h1, h2⟩ := av3_e h
  unfold f_X12_wayOf
  rw [show t'.1 103 = t.1 103 from av2_o h1 g (k := 0) (by omega), show t'.1 107 = t.1 107 from av2_o h1 g (k := 4) (by omega), show t'.1 114 = t.1 114 from av2_o h1 g (k := 11) (by omega), g.o h2, away_s _ _ t' t]
theorem comes_fr {t t' : HS} {M : List (Nat × Nat)} (g : Fr M t t') (h : av3 M = true) (v : Int32) : f_X12_comesAt v t' = f_X12_comesAt v t := by
  obtain ⟨h1, h2⟩ := av3_e h
  unfold f_X12_comesAt
  rw [way_fr g h, show t'.1 113 = t.1 113 from av2_o h1 g (k := 10) (by omega)]
theorem goes_fr {t t' : HS} {M : List (Nat × Nat)} (g : Fr M t t') (h : av3 M = true) (v : Int32) : f_X12_goesAt v t' = f_X12_goesAt v t := by
  obtain ⟨h1, h2⟩ := av3_e h
  unfold f_X12_goesAt
  rw [way_fr g h, show t'.1 103 = t.1 103 from av2_o h1 g (k := 0) (by omega), g.o h2]
section RANK
variable {p a c h n : Nat} {s t : HS}
theorem I_nn {k : Nat} (h : k < 2147483648) : ¬ I k = -1 := by
  rw [← Int32.toInt_inj, I_toInt h]
  have : (-1 : Int32).toInt = -1 := by decide
  omega
/-- whose things he fetches: his own alone, or all of the group -/
theorem r_wt (Q : QR h n s t) (hh : h ≤ 5) (hn : n ≤ 6) {i : Nat} (hi : i < n) : (¬ I i = t.1 101 62 ∧ ∀ j, j < n → f_X6_wantsToo (I i) (I j) s = if i = j then 1 else 0) ∨ (I i = t.1 101 62 ∧ s.1 73 5 = -1 ∧ t.1 101 64 = -1 ∧ ∀ j, j < n → f_X6_wantsToo (I i) (I j) s = ((t.1 101 63) >>> (I j &&& 31)) &&& 1) := by
  obtain ⟨-, q1, q2⟩ := Q
  have q2' : s.1 73 5 = -1 → t.1 101 64 = -1 := by
    intro e
    rcases q2 with q2 | ⟨k, k1, k2, -⟩
    · exact q2.2
    · rw [k2] at e; exact absurd e (I_nn (by omega))
  have hij : ∀ j, j < n → (I i = I j ↔ i = j) := fun j hj => I_inj (by omega) (by omega)
  have other : ¬ I i = s.1 73 4 → ∀ j, j < n → f_X6_wantsToo (I i) (I j) s = if i = j then 1 else 0 := by
    intro e j hj
    unfold f_X6_wantsToo
    by_cases z : i = j
    · rw [if_pos ((hij j hj).mpr z), if_pos z]
    · rw [if_neg (fun w => z ((hij j hj).mp w)), if_neg e, if_neg z]
  rcases q1 with ⟨e1, e2⟩ | ⟨k, k1, e1, e2, e3, e4, e5⟩
  · exact Or.inl ⟨by rw [e2]; exact I_nn (by omega), other (by rw [e1]; exact I_nn (by omega))⟩
  · by_cases z : i = k
    · subst z
      refine Or.inr ⟨e2.symm, e5, q2' e5, fun j hj => ?_⟩
      unfold f_X6_wantsToo
      rw [e1, e3]
      by_cases z : i = j
      · subst z; rw [if_pos (Eq.refl _), e4]
      · rw [if_neg (fun w => z ((hij j hj).mp w)), if_pos (Eq.refl _)]
        rcases and1 ((t.1 101 63) >>> (I j &&& 31)) with w | w
        · rw [w, if_pos (Eq.refl _)]
        · rw [w, if_neg one_ne]
    · have hik : ¬ I i = I k := fun w => z ((I_inj (by omega) (by omega)).mp w)
      exact Or.inl ⟨by rw [e2]; exact hik, other (by rw [e1]; exact hik)⟩
/-- how many things he asks for -/
theorem r_many (P : PL p 0 c h n s t) (hp : s.2.2.2.2.1 = p) (Q : QR h n s t) {i : Nat} (hi : i < n) : ∃ m, (∀ (T w : Int32) (K : Int32 → HS → Option (Int32 × HS)), f_X6_rankOf_l50 (I i) T w K FU 0 0 s = K m s) ∧ ∀ t' : HS, t'.1 101 = t.1 101 → t'.1 103 = t.1 103 → t'.1 118 = t.1 118 → f_X12_manyOf (I i) t' = some m := by
  have hn := P.n6
  have i12 : inb (I i) 12 = true := inb_t (by omega) (by omega)
  have ii : (I i).toNatClampNeg = i := I_nat (by omega)
  have cls : ∀ (g : Nat → Int32), (∀ j, j < n → g j = if f_X6_wantsToo (I i) (I j) s = 0 then 0 else t.1 118 j) → ∀ (T w : Int32) (K : Int32 → HS → Option (Int32 × HS)), f_X6_rankOf_l50 (I i) T w K FU 0 0 s = K (psum g n) s := by
    intro g hg T w K
    have := sumK (fun f x k => f_X6_rankOf_l50 (I i) T w K f x k s) (fun x => K x s) g n (by omega) (fun k hk f x => by
      have hk2 : ¬ I n ≤ I k := by rw [I_le (by omega) (by omega)]; omega
      have kk : (I k).toNatClampNeg = k := I_nat (by omega)
      have k6 : inb (I k) 6 = true := inb_t (by omega) (by omega)
      obtain ⟨m, m1, m2, m3, m4, -⟩ := P.want hk
      rw [hg k hk]
      by_cases z : f_X6_wantsToo (I i) (I k) s = 0
      · simp only [f_X6_rankOf_l50, f_X6_rankOf_l50b, hp, P.1, gd_t, P.nc, if_neg hk2, if_pos z, ltb_t, I_succ]
      · simp only [f_X6_rankOf_l50, f_X6_rankOf_l50b, hp, P.1, gd_t, P.nc, if_neg hk2, if_neg z, ltb_t, I_succ, k6, kk, bS_f, m3, m4])
      (fun f x => by simp only [f_X6_rankOf_l50, f_X6_rankOf_l50b, hp, P.1, gd_t, P.nc, if_pos (Int32.le_refl _)]) 0
    rw [this, Int32.zero_add]
  rcases r_wt Q hn.2.1 hn.2.2 hi with ⟨e1, e2⟩ | ⟨e1, -, -, e2⟩
  · refine ⟨t.1 118 i, ?_, ?_⟩
    · intro T w K
      rw [cls (fun j => if i = j then t.1 118 i else 0) (fun j hj => ?_), psum_1 hi]
      rw [e2 j hj]
      by_cases z : i = j
      · subst z; rw [if_pos (Eq.refl _), if_pos (Eq.refl _), if_neg one_ne]
      · rw [if_neg z, if_neg z, if_pos (Eq.refl _)]
    · intro t' f1 f2 f3
      unfold f_X12_manyOf
      rw [f1, f3, if_neg e1, i12, gd_t, ii]
  · refine ⟨psum (fun j => if ((t.1 101 63) >>> (I j &&& 31)) &&& 1 = 1 then t.1 118 j else 0) n, ?_, ?_⟩
    · intro T w K
      refine cls _ (fun j hj => ?_) T w K
      rw [e2 j hj]
      rcases and1 ((t.1 101 63) >>> (I j &&& 31)) with q | q
      · rw [q, if_pos (Eq.refl _), if_neg (by decide)]
      · rw [q, if_neg one_ne, if_pos (Eq.refl _)]
    · intro t' f1 f2 f3
      unfold f_X12_manyOf
      rw [f1, if_pos e1]
      have := sumK (fun f x k => f_X12_manyOf_l19 t' f x k) (fun x => some x) (fun j => if ((t.1 101 63) >>> (I j &&& 31)) &&& 1 = 1 then t.1 118 j else 0) n (by omega) (fun k hk f x => by
        have hk2 : ¬ I n ≤ I k := by rw [I_le (by omega) (by omega)]; omega
        have kk : (I k).toNatClampNeg = k := I_nat (by omega)
        have k12 : inb (I k) 12 = true := inb_t (by omega) (by omega)
        by_cases z : ((t.1 101 63) >>> (I k &&& 31)) &&& 1 = 1
        · simp only [f_X12_manyOf_l19, f_X12_manyOf_l19b, f1, f2, f3, P.nm, if_neg hk2, if_pos z, gd_t, k12, kk, ltb_t, I_succ]
        · simp only [f_X12_manyOf_l19, f_X12_manyOf_l19b, f1, f2, f3, P.nm, if_neg hk2, if_neg z, ltb_t, I_succ])
        (fun f x => by simp only [f_X12_manyOf_l19, f_X12_manyOf_l19b, f2, P.nm, if_pos (Int32.le_refl _)]) 0
      rw [this, Int32.zero_add]
theorem EqB.le2 {x y : Int32} (e : EqB x y 0 2) : x = y ∧ (y = 0 ∨ y = 1 ∨ y = 2) := by
  obtain ⟨k, k1, k2, k3, k4⟩ := e.of (by omega)
  refine ⟨e.1, ?_⟩
  have : k = 0 ∨ k = 1 ∨ k = 2 := by omega
  rcases this with rfl | rfl | rfl
  · exact Or.inl k2
  · exact Or.inr (Or.inl k2)
  · exact Or.inr (Or.inr k2)
/-- the rank of one who waits -/
theorem r_rank (P : PL p 0 c h n s t) (hp : s.2.2.2.2.1 = p) (ha : s.2.2.2.2.2.1 = a) (A : HR a h n s t) (Q : QR h n s t) (O : OR p s t) {i : Nat} (hi : i < n) (hc : f_X12_comesAt (I i) t = some (s.1 74 i)) (T : Int32) :
    ∃ x u v, f_X6_rankOf (I i) T s = some (x, u) ∧ f_X12_orderOf (I i) T t = some (x, v) := by
  have hn := P.n6
  have i6 : inb (I i) 6 = true := inb_t (by omega) (by omega)
  have i12 : inb (I i) 12 = true := inb_t (by omega) (by omega)
  have ii : (I i).toNatClampNeg = i := I_nat (by omega)
  obtain ⟨k1, -, -⟩ := P.kind hi
  obtain ⟨m, m1, m2⟩ := r_many P hp Q hi
  obtain ⟨q1, q2⟩ := Q.1.le2
  obtain ⟨x, x1, x2, x3, -⟩ := r_far P A.2.2.2.1 hi
  obtain ⟨E, o1, o2, o3⟩ := O
  have a64 : okX7 a = true := A.1
  -- the class
  have cls : ∀ w : Int32, (if s.1 (bS p i) 1 = 1 then (0 : Int32) else 1) = w → ∃ y u, f_X6_rankOf (I i) T s = some (y, u) ∧ y = if t.1 101 61 = 1 then 0 else if t.1 101 61 = 2 then 1 - w else E x (T - s.1 74 i) w m := by
    intro w hw
    have e0 : f_X6_rankOf (I i) T s = f_X6_rankOf_j21 (I i) T w s := by
      unfold f_X6_rankOf
      rw [hp, P.1, i6, gd_t, gd_t, ii, bS_f]
      by_cases z : s.1 (bS p i) 1 = 1
      · rw [if_pos z] at hw ⊢; rw [hw]
      · rw [if_neg z] at hw ⊢; rw [hw]
    rw [e0]
    unfold f_X6_rankOf_j21
    rw [q1]
    by_cases z1 : t.1 101 61 = 1
    · rw [if_pos z1, if_pos z1]; exact ⟨_, _, rfl, rfl⟩
    · rw [if_neg z1, if_neg z1]
      by_cases z2 : t.1 101 61 = 2
      · rw [if_pos z2, if_pos z2]; exact ⟨_, _, rfl, rfl⟩
      · rw [if_neg z2, if_neg z2, m1]
        obtain ⟨u, hu⟩ := o1 s x (T - s.1 74 i) w m (Eq.refl _) (Eq.refl _)
        refine ⟨_, u, ?_, rfl⟩
        rw [hp, ha, P.1, a64, gd_t, gd_t, gd_t, x1, bnd_t, i6, gd_t, ii, hu, bnd2_t]
  obtain ⟨y, u, y1, y2⟩ := cls _ (Eq.refl _)
  refine ⟨y, u, ?_⟩
  have key : ∃ v, f_X12_orderOf (I i) T t = some (y, v) := by
    rw [k1] at y2
    unfold f_X12_orderOf
    rcases q2 with z | z | z
    · rw [z, if_neg (by decide), if_neg (by decide)] at y2
      rw [z, if_pos (by decide)]
      by_cases w : t.1 121 0 = t.1 120 0
      · rw [if_pos w, y2, o3 w]; exact ⟨_, rfl⟩
      · have o2 := o2 w
        rw [if_neg w, i12, gd_t, ii, x2, gd_t, x3, ltb_t]
        have g1 : Fr [(134, 0)] t (sI t 134 1 x) := fr_sI (by decide)
        rw [comes_fr g1 (by decide), hc, bnd_t, ltb_t]
        have g2 : Fr [(134, 0)] t (sI (sI t 134 1 x) 134 2 (T - s.1 74 i)) := g1.trans (fr_sI (by decide))
        rw [g2.o (by decide), gd_t]
        have fin : ∀ w : Int32, (if t.1 113 i = 1 then (0 : Int32) else 1) = w → ∃ v, f_X12_orderOf_j107 (I i) w 3 (sI (sI t 134 1 x) 134 2 (T - s.1 74 i)) = some (y, v) := by
          intro w hw
          rw [hw] at y2
          unfold f_X12_orderOf_j107
          rw [show inb (3 : Int32) 20 = true from inb_t (n := 3) (by omega) (by omega), gd_t, ltb_t, show (3 : Int32).toNatClampNeg = 3 from I_nat (n := 3) (by omega)]
          have g3 : Fr [(134, 0)] t (sI (sI (sI t 134 1 x) 134 2 (T - s.1 74 i)) 134 3 w) := g2.trans (fr_sI (by decide))
          rw [m2 _ (g3.o (by decide)) (g3.o (by decide)) (g3.o (by decide)), bnd_t, ltb_t]
          have g4 : Fr [(134, 0)] t (sI (sI (sI (sI t 134 1 x) 134 2 (T - s.1 74 i)) 134 3 w) 134 4 m) := g3.trans (fr_sI (by decide))
          obtain ⟨v, hv⟩ := o2 _ (by rw [g4.o (by decide)]) (by rw [g4.o (by decide)]) (fun k hk => by rw [g4.o (by decide)])
          rw [hv, bnd2_t]
          refine ⟨v, ?_⟩
          rw [y2]
          simp [sI, up2]
        by_cases z3 : t.1 113 i = 1
        · rw [if_pos z3]; exact fin 0 (if_pos z3)
        · rw [if_neg z3]; exact fin 1 (if_neg z3)
    · rw [z, if_pos (by decide)] at y2
      rw [z, if_neg (by decide), if_neg (by decide), y2]
      exact ⟨_, rfl⟩
    · rw [z, if_neg (by decide), if_pos (by decide)] at y2
      rw [z, if_neg (by decide), if_pos (by decide), i12, gd_t, ii]
      by_cases z3 : t.1 113 i = 1
      · rw [if_pos z3] at y2 ⊢; rw [y2]; exact ⟨_, rfl⟩
      · rw [if_neg z3] at y2 ⊢; rw [y2]; exact ⟨_, rfl⟩
  obtain ⟨v, hv⟩ := key
  exact ⟨v, y1, hv⟩
end RANK
