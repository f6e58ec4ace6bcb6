/-! judged -/
def LC : List (Nat × Nat) := L_X11_playTrial ++ [(28, 0), (29, 0)]
def LJ : List (Nat × Nat) := L_X12_runs ++ [(145, 0), (101, 75), (101, 76)]
theorem LC_e : wsub [(28, 0), (29, 0)] LC = true ∧ wsub L_X11_playTrial LC = true ∧ wo LC 64 = false ∧ wo LC 66 = false := by decide +kernel
theorem LJ_e : wsub [(145, 0)] LJ = true ∧ wsub L_X12_runs LJ = true ∧ wsub [(101, 75), (101, 76)] LJ = true ∧ wo LJ 135 = false ∧ wo LJ 136 = false ∧ wo LJ 137 = false ∧ wo LJ 138 = false ∧ wo LJ 146 = false ∧ wo LJ 103 = false ∧ wo LJ 111 = false := by decide +kernel
theorem LR_e : wm L_X12_runs 101 74 = false ∧ wm L_X12_runs 101 75 = false := by decide +kernel
section JUDGED
variable {p d c h n : Nat} {s t : HS}
theorem RSd.same {i : Nat} {t' : HS} (H : RSd i s t) (e1 : t'.1 152 = t.1 152) (e2 : t'.1 153 = t.1 153) (e3 : t'.1 154 = t.1 154) (e4 : t'.1 145 = t.1 145) (e5 : t'.1 118 = t.1 118) (e6 : t'.1 117 = t.1 117) : RSd i s t' := by
  unfold RSd OUTi DW
  rw [e1, e2, e3, e4, e5, e6]; exact H
def GO (p c h n i : Nat) (s t : HS) : Prop := ∃ r dp dd s' t', (r = 0 ∨ r = 1) ∧ (∀ v1 K f v2 v3 v4, f_X11_judged_l33 v1 K (f + 1) v2 v3 v4 (I i) s = f_X11_judged_l33 v1 K f (if r = 0 then (if v2 = -1 then I i else v2) else v2) (v3 + dp) (v4 + dd) (I (i + 1)) s') ∧ f_X12_goes (I i) t = some (r, t') ∧ t'.1 101 74 = t.1 101 74 + dp ∧ t'.1 101 75 = t.1 101 75 + dd ∧ TRL p c h n s' t' ∧ Fr LC s s' ∧ Fr LJ t t'
theorem c_go {i m : Nat} (hq : s.2.2.1 = p) (okp : okX4 p = true) (h6 : s.1 64 6 = I m) (hm : m ≤ 40) (hi : i < m) {w x y r : Int32} {s' : HS} (e1 : s.1 66 (3 * i) = w) (e2 : s.1 66 (3 * i + 1) = x) (e3 : s.1 66 (3 * i + 2) = y) (n5 : ¬ w = 5) (hr : r = 0 ∨ r = 1) (ch : f_X7_change 28 p w x y s = some (r, s')) :
    ∀ v1 K f v2 v3 v4, f_X11_judged_l33 v1 K (f + 1) v2 v3 v4 (I i) s = f_X11_judged_l33 v1 K f (if r = 0 then (if v2 = -1 then I i else v2) else v2) (v3 + 0) (v4 + 0) (I (i + 1)) s' := by
  intro v1 K f v2 v3 v4
  have i1 : inb (I (3 * i)) 120 = true := inb_t (by omega) (by omega)
  have i2 : inb (I (3 * i + 1)) 120 = true := inb_t (by omega) (by omega)
  have i3 : inb (I (3 * i + 2)) 120 = true := inb_t (by omega) (by omega)
  have n1 : (I (3 * i)).toNatClampNeg = 3 * i := I_nat (by omega)
  have n2 : (I (3 * i + 1)).toNatClampNeg = 3 * i + 1 := I_nat (by omega)
  have n3 : (I (3 * i + 2)).toNatClampNeg = 3 * i + 2 := I_nat (by omega)
  have nm : ¬ I m ≤ I i := by rw [I_le (by omega) (by omega)]; omega
  rw [Int32.add_zero, Int32.add_zero]
  simp only [f_X11_judged_l33, f_X11_judged_l33b, h6, if_neg nm, mul3, ltb_t, i1, i2, i3, gd_t, n1, n2, n3, e1, e2, e3, if_neg n5, hq, okp, I_p1, I_p2, ch, bnd2_t, f_X11_judged_j158]
  rcases hr with rfl | rfl
  · simp only [if_true]
    by_cases z : v2 = -1
    · rw [if_pos z, if_pos z]
    · rw [if_neg z, if_neg z]
  · simp only [if_neg one_ne]
/-- a line that sets a value -/
theorem go_val (T : TRL p c h n s t) {i m : Nat} (h6 : s.1 64 6 = I m) (hm : m ≤ 40) (hi : i < m) {w x y : Int32} {o k q : Nat} {lo hi' : Int} (C : CL 28 h (t.1 103 3).toInt w x o k q lo hi') (e1 : s.1 66 (3 * i) = w) (e2 : s.1 66 (3 * i + 1) = x) (e3 : s.1 66 (3 * i + 2) = y) (lo1 : lo ≤ y.toInt)
    (g1 : (y.toInt ≤ hi' → f_X12_goes (I i) t = f_X12_changes (I q) y 0 t) ∧ (hi' < y.toInt → f_X12_goes (I i) t = some (0, t))) : GO p c h n i s t := by
  have hh := T.2.1.n6
  obtain ⟨r1, r2, r3, r4, r5, r6⟩ := r_chgv T.2.1 T.2.2.1 C y
  have q9 : q < 9 ∧ (o = 28 ∨ o = 29) ∧ ¬ w = 5 := by
    rcases C with ⟨rfl, rfl, rfl, rfl, rfl, rfl⟩ | ⟨rfl, rfl, rfl, rfl, rfl, rfl⟩ | ⟨rfl, rfl, rfl, rfl, rfl, rfl⟩ | ⟨rfl, j, j1, rfl, rfl, rfl, rfl, rfl, rfl⟩
    · exact ⟨by omega, Or.inl rfl, by decide⟩
    · exact ⟨by omega, Or.inl rfl, by decide⟩
    · exact ⟨by omega, Or.inl rfl, by decide⟩
    · exact ⟨by omega, Or.inr rfl, by decide⟩
  have no : ∀ a : Int32, a + 0 = a := fun a => Int32.add_zero a
  by_cases z0 : hi' < y.toInt
  · have ch : f_X7_change 28 p w x y s = some (0, s) := by rw [r5, if_pos (Or.inr z0 : y.toInt < lo ∨ hi' < y.toInt), ite_self]
    exact ⟨0, 0, 0, s, t, Or.inl rfl, c_go T.1 T.2.1.1 h6 hm hi e1 e2 e3 q9.2.2 (Or.inl rfl) ch, g1.2 z0, (no _).symm, (no _).symm, T, Fr.refl, Fr.refl⟩
  have nb : ¬ (y.toInt < lo ∨ hi' < y.toInt) := by omega
  have gg := g1.1 (by omega)
  rw [m_chg0 q9.1] at gg
  by_cases z : t.1 145 q = y
  · have ch : f_X7_change 28 p w x y s = some (0, s) := by rw [r5, if_pos z]
    exact ⟨0, 0, 0, s, t, Or.inl rfl, c_go T.1 T.2.1.1 h6 hm hi e1 e2 e3 q9.2.2 (Or.inl rfl) ch, by rw [gg, if_pos z], (no _).symm, (no _).symm, T, Fr.refl, Fr.refl⟩
  · have ch : f_X7_change 28 p w x y s = some (1, sI s o k y) := by rw [r5, if_neg z, if_neg nb]
    have f1 : Fr [(28, 0), (29, 0)] s (sI s o k y) := fr_sI (by rcases q9.2.1 with rfl | rfl <;> simp [wm])
    have g2 : Fr [(145, 0)] t (sI t 145 q y) := fr_sI (by simp [wm])
    refine ⟨1, 0, 0, _, _, Or.inr rfl, c_go T.1 T.2.1.1 h6 hm hi e1 e2 e3 q9.2.2 (Or.inr rfl) ch, by rw [gg, if_neg z], ?_, ?_, T.upd2 f1 (g2.mono (by decide)) (r6 lo1 (by omega)), f1.mono LC_e.1, g2.mono LJ_e.1⟩
    · rw [no, sI_n _ _ _ (by decide)]
    · rw [no, sI_n _ _ _ (by decide)]
theorem r_go (T : TRL p c h n s t) {i m : Nat} (h6 : s.1 64 6 = I m) (hm : m ≤ 40) (hi : i < m) (L : LNi h n (s.1 66 (3 * i)) (s.1 66 (3 * i + 1)) (s.1 66 (3 * i + 2)) (t.1 136 i) (t.1 137 i) (t.1 138 i)) : GO p c h n i s t := by
  have hh := T.2.1.n6
  have i1 : inb (I i) 240 = true := inb_t (by omega) (by omega)
  have n1 : (I i).toNatClampNeg = i := I_nat (by omega)
  have no : ∀ a : Int32, a + 0 = a := fun a => Int32.add_zero a
  have stop : (60 : Int) ≤ (t.1 103 3).toInt ∧ (t.1 103 3).toInt ≤ 900 := by have := T.2.1.2.2.2.2.2.1.1; exact ⟨this.2.1, this.2.2⟩
  have isr : ∀ r : Int32, (r = 0 ∨ r = 1) → isb r = true := fun r hr => by rcases hr with rfl | rfl <;> decide
  have cis : ∀ {q : Nat} {y : Int32}, q < 9 → (bnd2 (f_X12_changes (I q) y 0 t) fun y25 s26 => gd (isb y25) (some (y25, s26))) = f_X12_changes (I q) y 0 t := fun {q y} hq => by
    rw [m_chg0 hq]
    by_cases z : t.1 145 q = y
    · rw [if_pos z, bnd2_t, isb01.1, gd_t]
    · rw [if_neg z, bnd2_t, isb01.2, gd_t]
  rcases L with ⟨l1, k, k1, l2, l3, l4⟩ | ⟨l1, l2, l3⟩ | ⟨l1, l2, l3⟩ | ⟨l1, l2, l3⟩ | ⟨l1, l2, l3, k, k1, l4, l5⟩ | ⟨l1, l2⟩
  · -- out and home
    obtain ⟨W, W2, W1, e1, e2, e3⟩ := r_tog T.2.1 T.2.2.1 k1 (s.1 66 (3 * i + 2))
    have p64 : 2 ^ n ≤ 64 := (Nat.pow_le_pow_right (by omega) hh.2.2 : 2 ^ n ≤ 2 ^ 6)
    obtain ⟨q1, q2⟩ := Z1 W (by omega) k (by omega)
    have q3 := Z2 k (by omega) W (by omega)
    have y01 : s.1 66 (3 * i + 2) = 0 ∨ s.1 66 (3 * i + 2) = 1 := by rcases l4 with ⟨z, -⟩ | ⟨z, -⟩; exact Or.inr z; exact Or.inl z
    have gg : f_X12_goes (I i) t = f_X12_changes (I 0) (if (if W.testBit k then (1 : Int32) else 0) = s.1 66 (3 * i + 2) then I W else I W ^^^ ((1 : Int32) <<< (I k &&& 31))) 0 t := by
      rcases l4 with ⟨z1, z2⟩ | ⟨z1, z2⟩
      · have th : f_X12_outThen (I k) 1 t = if (if W.testBit k then (1 : Int32) else 0) = s.1 66 (3 * i + 2) then I W else I W ^^^ ((1 : Int32) <<< (I k &&& 31)) := by
          unfold f_X12_outThen
          rw [if_neg one_ne, W1, q2, z1]
          cases W.testBit k <;> simp
        unfold f_X12_goes
        simp only [i1, gd_t, n1, ltb_t, z2, l3, th]
        rw [if_neg (by decide), if_pos (by decide)]
        rw [show (0 : Int32) = I 0 from I0]
        exact cis (by omega)
      · have th : f_X12_outThen (I k) 0 t = if (if W.testBit k then (1 : Int32) else 0) = s.1 66 (3 * i + 2) then I W else I W ^^^ ((1 : Int32) <<< (I k &&& 31)) := by
          unfold f_X12_outThen
          rw [if_pos (Eq.refl _), W1, q1, z1]
          cases W.testBit k <;> simp
        unfold f_X12_goes
        simp only [i1, gd_t, n1, ltb_t, z2, l3, th]
        rw [if_neg (by decide), if_neg (by decide)]
        have := cis (q := 0) (y := if (if W.testBit k then (1 : Int32) else 0) = s.1 66 (3 * i + 2) then I W else I W ^^^ ((1 : Int32) <<< (I k &&& 31))) (by omega)
        rw [I_e0] at this ⊢
        exact this
    rw [m_chg0 (by omega), W1] at gg
    by_cases z : (if W.testBit k then (1 : Int32) else 0) = s.1 66 (3 * i + 2)
    · have ch : f_X7_change 28 p 3 (I k) (s.1 66 (3 * i + 2)) s = some (0, s) := by rw [e2, if_pos z]
      exact ⟨0, 0, 0, s, t, Or.inl rfl, c_go T.1 T.2.1.1 h6 hm hi l1 l2 rfl (by decide) (Or.inl rfl) ch, by rw [gg, if_pos z, if_pos (Eq.refl _)], (no _).symm, (no _).symm, T, Fr.refl, Fr.refl⟩
    · have ch : f_X7_change 28 p 3 (I k) (s.1 66 (3 * i + 2)) s = some (1, sI s 28 0 (I W ^^^ ((1 : Int32) <<< (I k &&& 31)))) := by rw [e2, if_neg z, if_pos y01]
      have f1 : Fr [(28, 0), (29, 0)] s (sI s 28 0 (I W ^^^ ((1 : Int32) <<< (I k &&& 31)))) := fr_sI (by decide)
      have g2 : Fr [(145, 0)] t (sI t 145 0 (I W ^^^ ((1 : Int32) <<< (I k &&& 31)))) := fr_sI (by decide)
      refine ⟨1, 0, 0, _, _, Or.inr rfl, c_go T.1 T.2.1.1 h6 hm hi l1 l2 rfl (by decide) (Or.inr rfl) ch, by rw [gg, if_neg z, if_neg q3], ?_, ?_, T.upd2 f1 (g2.mono (by decide)) e3, f1.mono LC_e.1, g2.mono LJ_e.1⟩
      · rw [no, sI_n _ _ _ (by decide)]
      · rw [no, sI_n _ _ _ (by decide)]
  · refine go_val T h6 hm hi (Or.inl ⟨rfl, rfl, rfl, rfl, rfl, rfl⟩) l1 rfl rfl (by rw [l3.1]; exact l3.2.1) ⟨fun z => ?_, fun z => ?_⟩
    · unfold f_X12_goes
      simp only [i1, gd_t, n1, ltb_t, l2, ← l3.1]
      rw [if_pos (by decide), if_pos (by decide), if_neg (by rw [Int32.lt_iff_toInt_lt]; omega), I_e1]
      have h1 := m_chg0 (t := t) (q := 1) (by omega) (s.1 66 (3 * i + 2))
      rw [I_e1] at h1
      rw [h1]
      by_cases y : t.1 145 1 = s.1 66 (3 * i + 2)
      · rw [if_pos y, bnd2_t, if_pos (Eq.refl _)]
      · rw [if_neg y, bnd2_t, if_neg one_ne]
    · unfold f_X12_goes
      simp only [i1, gd_t, n1, ltb_t, l2, ← l3.1]
      rw [if_pos (by decide), if_pos (by decide), if_pos (by rw [Int32.lt_iff_toInt_lt]; omega)]
  · have yb : (s.1 66 (3 * i + 2)).toInt ≤ 200 := by rw [l3.1]; exact l3.2.2
    refine go_val T h6 hm hi (Or.inr (Or.inl ⟨rfl, rfl, rfl, rfl, rfl, rfl⟩)) l1 rfl rfl (by rw [l3.1]; exact l3.2.1) ⟨fun z => ?_, fun z => by omega⟩
    unfold f_X12_goes
    simp only [i1, gd_t, n1, ltb_t, l2, ← l3.1]
    rw [if_pos (by decide), if_neg (by decide), if_neg (by decide), if_pos (by decide), show (2 : Int32) = I 2 from litI 2]
    exact cis (by omega)
  · have yb : (s.1 66 (3 * i + 2)).toInt ≤ 2 := by rw [l3.1]; exact l3.2.2
    refine go_val T h6 hm hi (Or.inr (Or.inr (Or.inl ⟨rfl, rfl, rfl, rfl, rfl, rfl⟩))) l1 rfl rfl (by rw [l3.1]; exact l3.2.1) ⟨fun z => ?_, fun z => by omega⟩
    unfold f_X12_goes
    simp only [i1, gd_t, n1, ltb_t, l2, ← l3.1]
    rw [if_pos (by decide), if_neg (by decide), if_neg (by decide), if_neg (by decide), show (3 : Int32) = I 3 from litI 3]
    exact cis (by omega)
  · have yb : (s.1 66 (3 * i + 2)).toInt ≤ 99 := by rw [l3.1]; exact l3.2.2
    refine go_val T h6 hm hi (Or.inr (Or.inr (Or.inr ⟨rfl, k, k1, rfl, rfl, rfl, rfl, rfl, rfl⟩))) l1 l4 rfl (by rw [l3.1]; exact l3.2.1) ⟨fun z => ?_, fun z => by omega⟩
    unfold f_X12_goes
    simp only [i1, gd_t, n1, ltb_t, l2, ← l3.1, l5]
    rw [if_pos (by decide), if_neg (by decide), if_pos (by decide), if_pos (by decide), show (4 : Int32) = I 4 from litI 4, I_add]
    exact cis (by omega)
  · -- the close
    obtain ⟨s3, t3, d1, d2, d3, d4, d5, d6, d7, d8⟩ := r_pT T
    obtain ⟨x, x1, x2⟩ := r_paid d5.2.1 d3.2.1 d4
    obtain ⟨y, y1, y2⟩ := r_drunkInAll d5.2.1 d3.2.1 d4
    have fr1 : ∀ (u : HS) (a : Int32) (k : Nat), (k = 74 ∨ k = 75) → Fr [(101, 75), (101, 76)] u (sI u 101 k a) := fun u a k hk => fr_sI (by rcases hk with rfl | rfl <;> decide)
    have dr : ∀ u : HS, Fr [(101, 75), (101, 76)] t3 u → f_X12_drunkInAll u = some y := fun u g => by
      obtain ⟨y', z1, z2⟩ := r_drunkD (d5.2.1.fr (L := []) Fr.refl g (by rcases okX4_c T.2.1.1 with rfl | rfl <;> decide) (by decide)) d3.2.1 (fun i hi => (d4.2.1 i hi).same (g.o (by decide)) (g.o (by decide)) (g.o (by decide)) (g.o (by decide)) (g.o (by decide)) (g.o (by decide)))
      rw [y1] at z1
      rw [z2, Option.some.inj z1]
    have g1 := fr1 t3 (t3.1 101 74 + x) 74 (Or.inl rfl)
    have g2 := g1.trans (fr1 (sI t3 101 74 (t3.1 101 74 + x)) ((sI t3 101 74 (t3.1 101 74 + x)).1 101 75 + y) 75 (Or.inr rfl))
    have s1 := dr _ g1
    have s2 := dr _ g2
    have e74 : t3.1 101 74 = t.1 101 74 := d8.1 101 74 LR_e.1
    have e75 : t3.1 101 75 = t.1 101 75 := d8.1 101 75 LR_e.2
    have T5 : TRL p c h n s3 (sI (sI t3 101 74 (t3.1 101 74 + x)) 101 75 ((sI t3 101 74 (t3.1 101 74 + x)).1 101 75 + y)) := by
      obtain ⟨q, P, A, O, D⟩ := d5
      refine ⟨q, P.fr (L := []) Fr.refl g2 (by rcases okX4_c P.1 with rfl | rfl <;> decide) (by decide), A.fr (L := []) Fr.refl g2 (by decide) (by decide), O.fr P.1 (L := []) Fr.refl g2 (by rcases okX4_c P.1 with rfl | rfl <;> decide) (by decide), ?_⟩
      unfold IDLE
      rw [g2.1 _ _ (by decide), g2.1 _ _ (by decide), g2.1 _ _ (by decide)]; exact D
    have i12 : inb (I (3 * i)) 120 = true := inb_t (by omega) (by omega)
    have n12 : (I (3 * i)).toNatClampNeg = 3 * i := I_nat (by omega)
    have nm : ¬ I m ≤ I i := by rw [I_le (by omega) (by omega)]; omega
    refine ⟨if y ≤ 0 then 0 else 1, x, y, s3, _, ?_, fun v1 K f v2 v3 v4 => ?_, ?_, ?_, ?_, T5, d7.mono LC_e.2.1, (d8.mono LJ_e.2.1).trans (g2.mono LJ_e.2.2.1)⟩
    · by_cases z : y ≤ 0
      · rw [if_pos z]; exact Or.inl rfl
      · rw [if_neg z]; exact Or.inr rfl
    · simp only [f_X11_judged_l33, f_X11_judged_l33b, h6, if_neg nm, mul3, ltb_t, i12, gd_t, n12, l1, if_true, d1, bnd_t, x1, y1, f_X11_judged_j106, f_X11_judged_j158_4, I_p1]
      by_cases z : y ≤ 0
      · by_cases z2 : v2 = -1
        · simp only [if_pos z, if_true, if_pos z2]
        · simp only [if_pos z, if_true, if_neg z2]
      · simp only [if_neg z, if_neg one_ne]
    · unfold f_X12_goes
      simp only [i1, gd_t, n1, ltb_t, l2]
      rw [if_pos (by decide), if_neg (by decide), if_pos (by decide), if_neg (by decide), d2, bnd_t, x2, bnd_t, s1, bnd_t, s2, bnd_t]
      by_cases z : y ≤ 0
      · rw [if_pos z, if_pos z]
      · rw [if_neg z, if_neg z]
    · rw [sI_s, if_neg (by decide), sI_k, e74]
    · rw [sI_k, sI_s, if_neg (by decide), e75]
end JUDGED
