/-! What stands once in the rules, of both -/
def tbq (m : Nat) : Int32 := I (m % 2 + 32 * (m / 2 % 32) + 2 * (m / 64 % 2))
def vbq (b : Nat) : Nat := if b = 0 then 0 else if b = 6 then 1 else b + 4
theorem once_1 : ∀ m, m < 256 → ∀ b, b < 8 → (I m &&& I (2 ^ b) = 0 ↔ m.testBit b = false) := by decide +kernel
theorem once_2 : ∀ m, m < 256 → ∀ b, b < 8 → m.testBit b = false → I m ||| I (2 ^ b) = I (m + 2 ^ b) ∧ m + 2 ^ b < 256 := by decide +kernel
theorem once_3 : ∀ m, m < 256 → ∀ b, b < 7 → ((tbq m >>> (I (vbq b) &&& 31)) &&& 1 = 1 ↔ m.testBit b = true) := by decide +kernel
theorem once_4 : ∀ m, m < 256 → ∀ b, b < 7 → m.testBit b = false → tbq m ||| ((1 : Int32) <<< (I (vbq b) &&& 31)) = tbq (m + 2 ^ b) ∧ (128 ≤ m + 2 ^ b ↔ 128 ≤ m) := by decide +kernel
theorem once_5 : ∀ m, m < 256 → (m.testBit 7 = true ↔ 128 ≤ m) ∧ (m.testBit 7 = false → tbq (m + 128) = tbq m) := by decide +kernel
def ORDq (p m : Nat) (s t : HS) : Prop := t.1 120 1 = I 1000 ∧ ((m < 128 ∧ t.1 121 1 = I 1000 ∧ t.1 101 30 = I 1000 ∧ s.1 (p + 2) 1 = 0) ∨ (128 ≤ m ∧ ∃ C R E, PR 4 0 C R E ∧ C.length ≤ 1000 ∧ R.length ≤ 1000 ∧ CCs p C s ∧ t.1 121 1 = I (1000 + R.length) ∧ RCs R t))
def ONCE (p : Nat) (s t : HS) : Prop := ∃ m, m < 256 ∧ s.1 69 2 = I m ∧ t.1 101 31 = tbq m ∧ ORDq p m s t
theorem ORDq.cg {p m m' : Nat} {s t s' t' : HS} (O : ORDq p m s t) (hm : 128 ≤ m' ↔ 128 ≤ m) (e : ∀ k, s'.1 (p + 2) k = s.1 (p + 2) k ∧ s'.1 (p + 3) k = s.1 (p + 3) k) (g : t'.1 101 30 = t.1 101 30) (g2 : ∀ k, t'.1 120 k = t.1 120 k ∧ t'.1 121 k = t.1 121 k ∧ t'.1 122 k = t.1 122 k) : ORDq p m' s' t' := by
  have a1 : s'.1 (p + 2) = s.1 (p + 2) := funext fun k => (e k).1
  have a2 : s'.1 (p + 3) = s.1 (p + 3) := funext fun k => (e k).2
  have a3 : t'.1 120 = t.1 120 := funext fun k => (g2 k).1
  have a4 : t'.1 121 = t.1 121 := funext fun k => (g2 k).2.1
  have a5 : t'.1 122 = t.1 122 := funext fun k => (g2 k).2.2
  obtain ⟨o1, o2⟩ := O
  unfold ORDq CCs RCs
  rw [a1, a2, a3, a4, a5, g]
  refine ⟨o1, o2.imp (fun q => ⟨by omega, q.2⟩) (fun q => ⟨by omega, q.2⟩)⟩
theorem ONCE.same {p : Nat} {s t s' t' : HS} (O : ONCE p s t) (e : ONS p s t s' t') : ONCE p s' t' := by
  obtain ⟨m, m1, m2, m3, m4⟩ := O
  obtain ⟨⟨e1, e2⟩, e3, e4, e5⟩ := e
  exact ⟨m, m1, by rw [e1]; exact m2, by rw [e4]; exact m3, m4.cg Iff.rfl e2 e3 e5⟩
theorem Res.imp {L B : Nat} {t0 : HS} {G G' : HS → HS → Prop} {x : Option HS} {y : Option (Int32 × HS)} (h : ∀ s t, G s t → G' s t) (r : Res L B t0 G x y) : Res L B t0 G' x y := by
  rcases r with ⟨B', P', s', t', r1, r2, r3, r4, r5⟩ | r
  · exact Or.inl ⟨B', P', s', t', r1, r2, r3, r4, h _ _ r5⟩
  · exact Or.inr r
section ONCES
variable {p L c h n r : Nat} {s t s' t' : HS}
theorem PLx.cg2 (hp : okX4 p = true) (hn : c ≤ 6 ∧ h ≤ 5 ∧ n ≤ 6) (X : PLx p r c h n s t) (hsc : PLsc p r s' t') (e1  : ∀ k, k < 4 → s'.1 (p + 1) k = s.1 (p + 1) k) (e6 : ∀ i, i < c → s'.1 (p + 6) i = s.1 (p + 6) i) (e9 : ∀ i, i < h → ∀ k, s'.1 (p + (9 + i)) k = s.1 (p + (9 + i)) k) (e14 : ∀ i, i < n → ∀ k, s'.1 (p + (14 + 2 * i)) k = s.1 (p + (14 + 2 * i)) k ∧ s'.1 (p + (15 + 2 * i)) k = s.1 (p + (15 + 2 * i)) k)
    (m4 : ∀ i, i < c → t'.1 107 (6 * r + i) = t.1 107 (6 * r + i)) (m5 : ∀ i, i < h → ∀ o, 108 ≤ o → o ≤ 112 → t'.1 o (5 * r + i) = t.1 o (5 * r + i)) (m10 : ∀ i, i < n → ∀ o, (113 ≤ o ∧ o ≤ 116) ∨ o = 118 → t'.1 o (6 * r + i) = t.1 o (6 * r + i)) (m14 : ∀ i, i < n → ∀ k, k < 3 → t'.1 117 (3 * (6 * r + i) + k) = t.1 117 (3 * (6 * r + i) + k)) (m16 : ∀ k, k < 4 → t'.1 119 (4 * r + k) = t.1 119 (4 * r + k)) : PLx p r c h n s' t' := by
  obtain ⟨a6, a7, a8, a9, a10⟩ := X
  refine ⟨hsc, ?_, ?_, ?_, ?_⟩
  · intro i hi
    have := a7 i hi
    rw [yS_e hp] at this ⊢
    rw [e6 i hi, m4 i hi]; exact this
  · intro i hi
    have := a8 i hi
    unfold PLt at this ⊢
    rw [tS_e hp (by omega)] at this ⊢
    rw [e9 i hi, e9 i hi, e9 i hi, e9 i hi, e9 i hi, m5 i hi 108 (by omega) (by omega), m5 i hi 109 (by omega) (by omega), m5 i hi 110 (by omega) (by omega), m5 i hi 111 (by omega) (by omega), m5 i hi 112 (by omega) (by omega)]; exact this
  · intro i hi
    have := a9 i hi
    unfold PLb at this ⊢
    rw [wS_e hp (by omega), bS_e hp (by omega)] at this ⊢
    obtain ⟨b1, b2, b3, b4, m, g1, g2, g3, g4, g5, g6, g7⟩ := this
    have w : ∀ k, k < m → t'.1 117 (3 * (6 * r + i) + k) = t.1 117 (3 * (6 * r + i) + k) := fun k hk => m14 i hi k (by omega)
    refine ⟨by rw [(e14 i hi 1).1, m10 i hi 113 (by omega)]; exact b1, by rw [(e14 i hi 2).1, m10 i hi 114 (by omega)]; exact b2, by rw [(e14 i hi 3).1, m10 i hi 115 (by omega)]; exact b3, by rw [(e14 i hi 4).1, m10 i hi 116 (by omega)]; exact b4, m, g1, g2, by rw [(e14 i hi 6).1]; exact g3, by rw [m10 i hi 118 (by omega)]; exact g4, fun k hk => by rw [(e14 i hi k).2, w k hk]; exact g5 k hk, fun k hk k' hk' q => ?_, ?_⟩
    · rw [w k hk, w k' hk'] at q; exact g6 k hk k' hk' q
    · rw [(e14 i hi 7).1, g7]; exact (wbits_cg w).symm
  · intro m hm
    have := a10 m hm
    rw [lS_e hp] at this ⊢
    rw [e1 m hm, m16 m hm]; exact this
end ONCES
section ONCES2
variable {p L c h n : Nat} {s t : HS}
/-- the line's gate: told already, or not -/
theorem f_twice {B P m b : Nat} (T : TK L B P s t) (hm : m < 256) (hb : b < 7) (e2 : t.1 101 31 = tbq m) {G : HS → HS → Prop} {K : HS → Option HS} {M : HS → Option (Int32 × HS)} {v : Int32} (hv : v = I (vbq b)) (go : m.testBit b = false → TK L B P (sI s 69 2 (I (m + 2 ^ b))) (sI t 101 31 (tbq (m + 2 ^ b))) → Res L B t G (K (sI s 69 2 (I (m + 2 ^ b)))) (M (sI t 101 31 (tbq (m + 2 ^ b))))) (e1 : s.1 69 2 = I m) :
    Res L B t G (if s.1 69 2 &&& I (2 ^ b) = 0 then K (sI s 69 2 (s.1 69 2 ||| I (2 ^ b))) else bnd (f_X8_fail 3 s) fun s27 => f_X5_readLine_j161 s27) (bnd2 (f_X12_isTwice v t) fun y1 s2 => if y1 = 0 then M s2 else bnd2 (f_X12_fails 3 s2) fun y s => gd (isb y) (some (y, s))) := by
  subst hv
  have o1 := once_1 m hm b (by omega)
  have o2 := once_2 m hm b (by omega)
  have o3 := once_3 m hm b hb
  have o4 := once_4 m hm b hb
  unfold f_X12_isTwice
  rw [e1, e2]
  by_cases z : m.testBit b = false
  · rw [if_pos (o1.mpr z), if_neg (fun w => by rw [o3.mp w] at z; cases z), ltb_t, bnd2_t, if_pos (Eq.refl _), (o2 z).1, (o4 z).1]
    exact go z ((T.cI (by decide)).mI ⟨Or.inr (by omega), by decide⟩)
  · rw [if_neg (fun w => z (o1.mp w)), if_pos (o3.mpr (by simpa using z)), bnd2_t, if_neg (by decide)]
    refine f_fail T Wr.nil free_nil (by decide) (Q := fun _ => True) (DK.go fun s D _ => ?_) (fun _ _ => trivial)
    unfold f_X5_readLine_j161
    simp only [Dd.takeSign, D, bnd_t]
    exact ⟨s, rfl, D, rfl⟩
/-- a number that stands once -/
theorem l_one (hp : okX4 p = true) {B P m b : Nat} (T : TK L B P s t) (hB : B < P) (D : DR p c h n s t) (hm : m < 256) (hb : 1 ≤ b ∧ b ≤ 5) (e1 : s.1 69 2 = I m) (e2 : t.1 101 31 = tbq m) (O : ORDq p m s t) {lo hi v : Int32} (hv : v = I (b + 4)) (hlh : (b = 1 ∧ lo = 1 ∧ hi = 2) ∨ (b = 2 ∧ lo = 0 ∧ hi = 60) ∨ (b = 3 ∧ lo = 0 ∧ hi = 99) ∨ (b = 4 ∧ lo = 1 ∧ hi = 120) ∨ (b = 5 ∧ lo = 1 ∧ hi = 30)) :
    Res L B t (fun s' t' => DR p c h n s' t' ∧ ONCE p s' t' ∧ FR0 t t') (if s.1 69 2 &&& I (2 ^ b) = 0 then bnd (f_X8_step (sI s 69 2 (s.1 69 2 ||| I (2 ^ b)))) fun s17 => bnd (bnd2 (f_X8_takeNumber lo hi s17) fun y s' => ltb (sI s' p (b + 1) y) fun s' => some s') fun s21 => f_X5_readLine_j161 s21 else bnd (f_X8_fail 3 s) fun s27 => f_X5_readLine_j161 s27) (f_X12_readsOne v lo hi t) := by
  obtain ⟨d1, d2, d3⟩ := id D
  obtain ⟨⟨hc, hh, hn⟩, -⟩ := id d1
  have q := p36 hp
  have hp36 : p ≠ 36 := (q 0 (by omega)).1
  have hp37 : p ≠ 37 := (q 0 (by omega)).2.1
  have hp0 : p ≠ 0 := (q 0 (by omega)).2.2.1
  have hp69 : p ≠ 69 := (q 0 (by omega)).2.2.2
  have vb : b + 4 = vbq b := by unfold vbq; rw [if_neg (by omega), if_neg (by omega)]
  unfold f_X12_readsOne
  refine f_twice (b := b) T hm (by omega) e2 (by rw [hv, vb]) (K := fun s => bnd (f_X8_step s) fun s17 => bnd (bnd2 (f_X8_takeNumber lo hi s17) fun y s' => ltb (sI s' p (b + 1) y) fun s' => some s') fun s21 => f_X5_readLine_j161 s21) (fun z T0 => ?_) e1
  have o2 := once_2 m hm b (by omega)
  have o4 := once_4 m hm b (by omega)
  have x1 : (10 : Int32) + v = I (14 + b) := by rw [hv, show (10 : Int32) = I 10 from litI 10, I_add]; congr 1; omega
  have x2 : inb (I (14 + b)) 20 = true := inb_t (by omega) (by omega)
  have x3 : (I (14 + b)).toNatClampNeg = 14 + b := I_nat (by omega)
  unfold f_X5_readLine_j161
  simp only [bnd_as, bnd_as2, ltb_t, bnd_t, x1, x2, x3, gd_t]
  have hf : free [(101, 31, tbq (m + 2 ^ b))] [] := free_I free_nil (by unfold R0; omega)
  refine f_step T0 (Wr.wI Wr.nil) (Wr.wI Wr.nil) (fun B1 P1 s1 t1 T1 hb1 w1 m1 _ _ => ?_)
  refine f_num T1 w1 m1 hf (Q := fun _ => True) (DK.go fun s D _ => ?_) (fun _ _ => trivial) (fun B2 P2 s2 t2 v2 T2 hb2 hv2 w2 m2 _ => ?_)
  · simp (maxDischargeDepth := 20) only [Dd.takeSign, Dd.sI, D, hp36, bnd_t, ne_eq, not_false_eq_true]
    exact ⟨_, rfl, D.sI hp36, sI_36 _ _ hp36⟩
  rw [hv2.1]
  have l1 := T1.le
  have fin := free_I hf (o := 103) (k := 14 + b) (x := v2) (by unfold R0; omega)
  refine f_close ((T2.cI ⟨hp36, hp37⟩).mI (o := 103) ⟨Or.inl (by decide), by decide⟩) w2.wI (Wr.wI m2) fin (by omega) (fun B' P' s' t' T' w' m' => ?_)
  have ns : ∀ o j, o ≠ 36 → o ≠ 0 → (o ≠ 69 ∨ j ≠ 2) → (o ≠ p ∨ j ≠ b + 1) → s'.1 o j = s.1 o j := fun o j z1 z2 z3 z4 => by
    rw [w'.1 o j (by omega)]
    simp only [lk]
    rw [if_neg (by omega), if_neg (by omega)]
  have nsL : ∀ o j, o ≠ 36 → o ≠ 0 → s'.2.1 o j = s.2.1 o j := fun o j z1 z2 => by
    rw [w'.2 o j (by omega)]
    rfl
  have nt : ∀ o j, ¬ Zm o j → (o ≠ 101 ∨ j ≠ 31) → (o ≠ 103 ∨ j ≠ 14 + b) → t'.1 o j = t.1 o j := fun o j z1 z2 z3 => by
    rw [m'.1 o j z1]
    simp only [lk]
    rw [if_neg (by omega), if_neg (by omega)]
  have ntL : ∀ o j, ¬ Zm o j → t'.2.1 o j = t.2.1 o j := fun o j z1 => by
    rw [m'.2 o j z1]
    rfl
  have zm : ∀ o j, o ≠ 101 → ¬ Zm o j := fun o j z1 z2 => z1 z2.1
  have q14 : ∀ j, j < 26 → p + j ≠ 36 ∧ p + j ≠ 0 ∧ p + j ≠ 69 := fun j hj => ⟨(q j hj).1, (q j hj).2.2.1, (q j hj).2.2.2⟩
  have a1 : s'.1 p (b + 1) = v2 := by
    rw [w'.1 p _ (by omega)]; simp only [lk]; rw [if_pos (by first | omega | simp)]
  have a2 : t'.1 103 (14 + b) = v2 := by
    rw [m'.1 103 _ (zm _ _ (by decide))]; simp only [lk]; rw [if_pos (by first | omega | simp)]
  have X : PLx p 1 c h n s' t' := by
    refine d2.cg2 hp ⟨hc, hh, hn⟩ ?_ (fun k _ => ns (p + 1) k (q14 1 (by omega)).1 (q14 1 (by omega)).2.1 (Or.inl (q14 1 (by omega)).2.2) (Or.inl (by omega))) (fun i _ => ns (p + 6) i (q14 6 (by omega)).1 (q14 6 (by omega)).2.1 (Or.inl (q14 6 (by omega)).2.2) (Or.inl (by omega))) (fun i hi k => ns _ _ (q14 (9 + i) (by omega)).1 (q14 (9 + i) (by omega)).2.1 (Or.inl (q14 (9 + i) (by omega)).2.2) (Or.inl (by omega))) (fun i hi k => ⟨ns _ _ (q14 (14 + 2 * i) (by omega)).1 (q14 (14 + 2 * i) (by omega)).2.1 (Or.inl (q14 (14 + 2 * i) (by omega)).2.2) (Or.inl (by omega)), ns _ _ (q14 (15 + 2 * i) (by omega)).1 (q14 (15 + 2 * i) (by omega)).2.1 (Or.inl (q14 (15 + 2 * i) (by omega)).2.2) (Or.inl (by omega))⟩) (fun i _ => nt _ _ (zm _ _ (by decide)) (Or.inl (by decide)) (Or.inl (by decide))) (fun i hi o h1 h2 => nt _ _ (zm _ _ (by omega)) (Or.inl (by omega)) (Or.inl (by omega))) (fun i hi o ho => nt _ _ (zm _ _ (by omega)) (Or.inl (by omega)) (Or.inl (by omega))) (fun i hi k _ => nt _ _ (zm _ _ (by decide)) (Or.inl (by decide)) (Or.inl (by decide))) (fun k _ => nt _ _ (zm _ _ (by decide)) (Or.inl (by decide)) (Or.inl (by decide)))
    obtain ⟨c0, c1, c2, c3, c4, c5, c6, c7⟩ := d2.1
    have sc : ∀ k lo' hi', EqB (s.1 p k) (t.1 103 (10 * 1 + (k + 3))) lo' hi' → (k = b + 1 → lo' ≤ v2.toInt ∧ v2.toInt ≤ hi') → EqB (s'.1 p k) (t'.1 103 (10 * 1 + (k + 3))) lo' hi' := fun k lo' hi' e1 e2 => by
      by_cases y : k = b + 1
      · subst y
        rw [show 10 * 1 + (b + 1 + 3) = 14 + b from by omega, a1, a2]
        exact ⟨rfl, e2 rfl⟩
      · rw [ns p k hp36 hp0 (Or.inl hp69) (Or.inr y), nt 103 _ (zm _ _ (by decide)) (Or.inl (by decide)) (Or.inr (by omega))]
        exact e1
    have i0 : (0 : Int32).toInt = 0 := by decide
    have i1 : (1 : Int32).toInt = 1 := by decide
    have i2 : (2 : Int32).toInt = 2 := by decide
    have i60 : (60 : Int32).toInt = 60 := by decide
    have i99 : (99 : Int32).toInt = 99 := by decide
    have i120 : (120 : Int32).toInt = 120 := by decide
    have i30 : (30 : Int32).toInt = 30 := by decide
    have bd := hv2.2
    have lohi : (b = 1 ∧ 1 ≤ v2.toInt ∧ v2.toInt ≤ 2) ∨ (b = 2 ∧ 0 ≤ v2.toInt ∧ v2.toInt ≤ 60) ∨ (b = 3 ∧ 0 ≤ v2.toInt ∧ v2.toInt ≤ 99) ∨ (b = 4 ∧ 1 ≤ v2.toInt ∧ v2.toInt ≤ 120) ∨ (b = 5 ∧ 1 ≤ v2.toInt ∧ v2.toInt ≤ 30) := by
      rcases hlh with ⟨z1, rfl, rfl⟩ | ⟨z1, rfl, rfl⟩ | ⟨z1, rfl, rfl⟩ | ⟨z1, rfl, rfl⟩ | ⟨z1, rfl, rfl⟩ <;> omega
    refine ⟨sc 0 _ _ c0 (by omega), sc 1 _ _ c1 (by omega), sc 2 _ _ c2 (by omega), sc 3 _ _ c3 (by omega), sc 4 _ _ c4 (by omega), sc 5 _ _ c5 (by omega), sc 6 _ _ c6 (by omega), ?_⟩
    rw [nt 103 (10 * 1 + 4) (zm _ _ (by decide)) (Or.inl (by decide)) (Or.inr (by omega)), nt 103 (10 * 1 + 3) (zm _ _ (by decide)) (Or.inl (by decide)) (Or.inr (by omega))]
    exact c7
  have Y : NMS p 1 c h n s' t' := d3.cg hp ⟨hc, hh, hn⟩ (fun i hi => nsL _ _ (q14 5 (by omega)).1 (q14 5 (by omega)).2.1) (fun i hi => nsL _ _ (q14 (9 + i) (by omega)).1 (q14 (9 + i) (by omega)).2.1) (fun i hi => nsL _ _ (q14 (14 + 2 * i) (by omega)).1 (q14 (14 + 2 * i) (by omega)).2.1) (fun i _ => ntL _ _ (zm _ _ (by decide))) (fun i hi => ntL _ _ (zm _ _ (by decide))) (fun i _ => ntL _ _ (zm _ _ (by decide)))
  refine ⟨⟨?_, X, Y⟩, ⟨m + 2 ^ b, (o2 z).2, ?_, ?_, O.cg (o4 z).2 (fun k => ⟨ns _ _ (q14 2 (by omega)).1 (q14 2 (by omega)).2.1 (Or.inl (q14 2 (by omega)).2.2) (Or.inl (by omega)), ns _ _ (q14 3 (by omega)).1 (q14 3 (by omega)).2.1 (Or.inl (q14 3 (by omega)).2.2) (Or.inl (by omega))⟩) (nt _ _ (by unfold Zm; omega) (Or.inr (by decide)) (Or.inl (by decide))) (fun k => ⟨nt _ _ (zm _ _ (by decide)) (Or.inl (by decide)) (Or.inl (by decide)), nt _ _ (zm _ _ (by decide)) (Or.inl (by decide)) (Or.inl (by decide)), nt _ _ (zm _ _ (by decide)) (Or.inl (by decide)) (Or.inl (by decide))⟩)⟩, Wm.r0 m' fin⟩
  · unfold CNT
    rw [ns _ _ hp36 hp0 (Or.inl hp69) (Or.inr (by omega)), ns _ _ hp36 hp0 (Or.inl hp69) (Or.inr (by omega)), ns _ _ hp36 hp0 (Or.inl hp69) (Or.inr (by omega)), nt 103 _ (zm _ _ (by decide)) (Or.inl (by decide)) (Or.inr (by omega)), nt 103 _ (zm _ _ (by decide)) (Or.inl (by decide)) (Or.inr (by omega)), nt 103 _ (zm _ _ (by decide)) (Or.inl (by decide)) (Or.inr (by omega))]
    exact d1
  · rw [w'.1 69 2 (by omega)]; simp only [lk]; rw [if_neg (by omega), if_pos (by first | omega | simp)]
  · rw [m'.1 101 31 (by unfold Zm; omega)]; simp only [lk]; rw [if_neg (by omega), if_pos (by first | omega | simp)]
end ONCES2
