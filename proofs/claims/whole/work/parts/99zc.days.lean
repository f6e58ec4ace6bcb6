/-! DAYS told: what may not change of the reference -/
def R5 (o k : Nat) : Prop := ¬ Zm o k ∧ (o = 135 → k ≠ 5) ∧ ((136 ≤ o ∧ o ≤ 138) → k < 200)
def FR5 (t t' : HS) : Prop := ∀ o k, R5 o k → t'.1 o k = t.1 o k ∧ t'.2.1 o k = t.2.1 o k
theorem FR5.refl {t : HS} : FR5 t t := fun _ _ _ => ⟨rfl, rfl⟩
theorem FR5.trans {a b c : HS} (h : FR5 a b) (g : FR5 b c) : FR5 a c := fun o k r => ⟨(g o k r).1.trans (h o k r).1, (g o k r).2.trans (h o k r).2⟩
/-- what a line comes to -/
def Res5 (L B : Nat) (t0 : HS) (G : HS → HS → Prop) (x : Option HS) (y : Option (Int32 × HS)) : Prop := (∃ B' P' s' t', x = some s' ∧ y = some (1, t') ∧ TK L B' P' s' t' ∧ B < B' ∧ G s' t') ∨ (∃ s' t', x = some s' ∧ y = some (0, t') ∧ BD s' t' ∧ FR5 t0 t')
def free5 (W : List (Nat × Nat × Int32)) (V : List (Nat × Nat × Int64)) : Prop := (∀ w, w ∈ W → ¬ R5 w.1 w.2.1) ∧ ∀ w, w ∈ V → ¬ R5 w.1 w.2.1
theorem lk_free5 {W : List (Nat × Nat × Int32)} {o k : Nat} {d : Int32} (h : ∀ w, w ∈ W → ¬ R5 w.1 w.2.1) (r : R5 o k) : lk W o k d = d := by
  induction W with
  | nil => rfl
  | cons w W ih =>
    show (if o = w.1 ∧ k = w.2.1 then w.2.2 else lk W o k d) = d
    rw [if_neg (fun q => h w List.mem_cons_self (by rw [← q.1, ← q.2]; exact r)), ih (fun v hv => h v (List.mem_cons_of_mem _ hv))]
theorem lkL_free5 {W : List (Nat × Nat × Int64)} {o k : Nat} {d : Int64} (h : ∀ w, w ∈ W → ¬ R5 w.1 w.2.1) (r : R5 o k) : lkL W o k d = d := by
  induction W with
  | nil => rfl
  | cons w W ih =>
    show (if o = w.1 ∧ k = w.2.1 then w.2.2 else lkL W o k d) = d
    rw [if_neg (fun q => h w List.mem_cons_self (by rw [← q.1, ← q.2]; exact r)), ih (fun v hv => h v (List.mem_cons_of_mem _ hv))]
theorem Wm.r5 {W V} {t t' : HS} (h : Wm W V t t') (f : free5 W V) : FR5 t t' := fun o k r => ⟨by rw [h.1 o k r.1, lk_free5 f.1 r], by rw [h.2 o k r.1, lkL_free5 f.2 r]⟩
section FIELDS5
variable {L B0 B P : Nat} {s0 t0 s t : HS} {W : List (Nat × Nat × Int32)} {V : List (Nat × Nat × Int64)} {W' : List (Nat × Nat × Int32)} {V' : List (Nat × Nat × Int64)} {G : HS → HS → Prop}
/-- a number alone -/
theorem g5_num (T : TK L B P s t) (c : Wc W V s0 s) (m : Wm W' V' t0 t) (hf : free5 W' V') {lo hi : Int32} {K : Int32 → HS → Option HS} {M : HS → Option (Int32 × HS)} {Q : HS → Prop} (hK : DK Q (K 0)) (hQ : ∀ s', Fr LF1 s s' → Q s')
    (go : ∀ B' P' s' t' v, TK L B' P' s' t' → P ≤ B' → (t'.1 101 44 = v ∧ lo.toInt ≤ v.toInt ∧ v.toInt ≤ hi.toInt ∧ 0 ≤ v.toInt) → Wc W V s0 s' → Wm W' V' t0 t' → Fr LF1 s s' → Res5 L B0 t0 G (K v s') (M t')) :
    Res5 L B0 t0 G (bnd2 (f_X8_takeNumber lo hi s) fun y s' => K y s') (bnd2 (f_X12_needsNumber lo hi t) fun y t' => if y = 0 then some (0, t') else M t') := by
  rcases T.tnum lo hi with ⟨B', P', s', t', v, p1, p2, p3, p4, p5, p6, p7⟩ | ⟨s', t', p1, p2, p3, p4, p5⟩
  · rw [p1, p2, bnd2_t, bnd2_t, if_neg (by decide)]
    exact go B' P' s' t' v p3 p4 p5 (c.fr p6) (m.fr p7) p6
  · rw [p1, p2, bnd2_t, bnd2_t, if_pos (Eq.refl _)]
    obtain ⟨s2, k1, k2, k3⟩ := hK s' p3.1 (hQ s' p4)
    exact Or.inr ⟨s2, t', k1, rfl, ⟨k2, by rw [k3]; exact p3.2⟩, (m.fr p5).r5 hf⟩
/-- a word and a number -/
theorem g5_both (T : TK L B P s t) (c : Wc W V s0 s) (m : Wm W' V' t0 t) (hf : free5 W' V') {j a : Nat} {w : Int64} (hj : j < 37) (ha : a = 1000 + j) (hw : w27 j = w) {lo hi : Int32} {K : Int32 → HS → Option HS} {M : HS → Option (Int32 × HS)} {Q : HS → Prop} (hK : DK Q (K 0)) (hQ : ∀ s', Fr LF1 s s' → Q s')
    (go : ∀ B' P' s' t' v, TK L B' P' s' t' → P ≤ B' → (t'.1 101 44 = v ∧ lo.toInt ≤ v.toInt ∧ v.toInt ≤ hi.toInt ∧ 0 ≤ v.toInt) → Wc W V s0 s' → Wm W' V' t0 t' → Fr LF1 s s' → Res5 L B0 t0 G (K v s') (M t')) :
    Res5 L B0 t0 G (bnd (f_X8_take a s) fun s1 => bnd2 (f_X8_takeNumber lo hi s1) fun y s' => K y s') (bnd2 (f_X12_needsBoth w lo hi t) fun y t' => if y = 0 then some (0, t') else M t') := by
  subst ha; subst hw
  obtain ⟨s1, a1, a2, a3⟩ := T.tboth hj lo hi
  rw [a1, bnd_t]
  rcases a3 with ⟨B', P', s', t', v, p1, p2, p3, p4, p5, p6, p7⟩ | ⟨s', t', p1, p2, p3, p4, p5⟩
  · rw [p1, p2, bnd2_t, bnd2_t, if_neg (by decide)]
    exact go B' P' s' t' v p3 p4 p5 (c.fr p6) (m.fr p7) p6
  · rw [p1, p2, bnd2_t, bnd2_t, if_pos (Eq.refl _)]
    obtain ⟨s2, k1, k2, k3⟩ := hK s' p3.1 (hQ s' p4)
    exact Or.inr ⟨s2, t', k1, rfl, ⟨k2, by rw [k3]; exact p3.2⟩, (m.fr p5).r5 hf⟩
/-- a word alone -/
theorem g5_word (T : TK L B P s t) (c : Wc W V s0 s) (m : Wm W' V' t0 t) (hf : free5 W' V') {j a : Nat} {w : Int64} (hj : j < 37) (ha : a = 1000 + j) (hw : w27 j = w) {K : HS → Option HS} {M : HS → Option (Int32 × HS)} {Q : HS → Prop} (hK : DK Q K) (hQ : ∀ s', Fr LF1 s s' → Q s')
    (go : ∀ B' P' s' t', TK L B' P' s' t' → P ≤ B' → Wc W V s0 s' → Wm W' V' t0 t' → Fr LF1 s s' → Res5 L B0 t0 G (K s') (M t')) :
    Res5 L B0 t0 G (bnd (f_X8_take a s) fun s1 => K s1) (bnd2 (f_X12_needsWord w t) fun y t' => if y = 0 then some (0, t') else M t') := by
  subst ha; subst hw
  rcases T.tword hj with ⟨B', P', s', t', p1, p2, p3, p4, p6, p7⟩ | ⟨s', t', p1, p2, p3, p4, p5⟩
  · rw [p1, p2, bnd_t, bnd2_t, if_neg (by decide)]
    exact go B' P' s' t' p3 p4 (c.fr p6) (m.fr p7) p6
  · rw [p1, p2, bnd_t, bnd2_t, if_pos (Eq.refl _)]
    obtain ⟨s2, k1, k2, k3⟩ := hK s' p3.1 (hQ s' p4)
    exact Or.inr ⟨s2, t', k1, rfl, ⟨k2, by rw [k3]; exact p3.2⟩, (m.fr p5).r5 hf⟩
/-- one token on -/
theorem g5_step (T : TK L B P s t) (c : Wc W V s0 s) (m : Wm W' V' t0 t) {K : HS → Option HS} {M : HS → Option (Int32 × HS)}
    (go : ∀ B' P' s' t', TK L B' P' s' t' → P ≤ B' → Wc W V s0 s' → Wm W' V' t0 t' → Fr LT1 s s' → Fr LT2 t t' → Res5 L B0 t0 G (K s') (M t')) :
    Res5 L B0 t0 G (bnd (f_X8_step s) fun s1 => K s1) (bnd (f_X12_nextToken t) fun t' => M t') := by
  obtain ⟨B', P', s', t', q1, q2, q3, q4, q5, q6⟩ := T.next
  rw [q1, q2, bnd_t, bnd_t]
  exact go B' P' s' t' q3 q4 (c.fr (q5.mono (by decide))) (m.fr (q6.mono (by decide))) q5 q6
/-- both fail here -/
theorem g5_fail (T : TK L B P s t) (m : Wm W' V' t0 t) (hf : free5 W' V') {v : Int32} (hv : 1 ≤ v.toInt ∧ v.toInt ≤ 5) {K : HS → Option HS} {Q : HS → Prop} (hK : DK Q K) (hQ : ∀ s', Fr LF1 s s' → Q s') : Res5 L B0 t0 G (bnd (f_X8_fail v s) fun s1 => K s1) (bnd2 (f_X12_fails v t) fun y t' => gd (isb y) (some (y, t'))) := by
  obtain ⟨s', t', q1, q2, q3, q4, q5⟩ := T.fail hv
  rw [q1, q2, bnd_t, bnd2_t, show isb 0 = true from by decide, gd_t]
  obtain ⟨s2, k1, k2, k3⟩ := hK s' q3.1 (hQ s' q4)
  exact Or.inr ⟨s2, t', k1, rfl, ⟨k2, by rw [k3]; exact q3.2⟩, (m.fr q5).r5 hf⟩
/-- the closing sign -/
theorem g5_close (T : TK L B P s t) (c : Wc W V s0 s) (m : Wm W' V' t0 t) (hf : free5 W' V') (hb : B0 < B) (hG : ∀ B' P' s' t', TK L B' P' s' t' → Wc W V s0 s' → Wm W' V' t0 t' → G s' t') : Res5 L B0 t0 G (bnd (f_X8_takeSign 59 s) fun s9 => some s9) (bnd2 (f_X12_closes t) fun y t' => gd (isb y) (some (y, t'))) := by
  rcases T.tsign with ⟨B', P', s', t', p1, p2, p3, p4, p6, p7⟩ | ⟨s', t', p1, p2, p3, p4, p5⟩
  · rw [p1, p2, bnd_t, bnd2_t, show isb 1 = true from by decide, gd_t]
    have := T.le
    exact Or.inl ⟨B', P', s', t', rfl, rfl, p3, by omega, hG B' P' s' t' p3 (c.fr p6) (m.fr p7)⟩
  · rw [p1, p2, bnd_t, bnd2_t, show isb 0 = true from by decide, gd_t]
    exact Or.inr ⟨s', t', rfl, rfl, p3, (m.fr p5).r5 hf⟩
end FIELDS5
theorem free5_nil : free5 [] [] := ⟨fun w hw => absurd hw List.not_mem_nil, fun w hw => absurd hw List.not_mem_nil⟩
theorem free5_I {W : List (Nat × Nat × Int32)} {V : List (Nat × Nat × Int64)} {o k : Nat} {x : Int32} (h : free5 W V) (r : ¬ R5 o k) : free5 ((o, k, x) :: W) V := ⟨fun w hw => by
  rcases List.mem_cons.mp hw with rfl | hw
  · exact r
  · exact h.1 w hw, h.2⟩
section DAYS
variable {p L h n m : Nat} {s t s0 t0 : HS}
def LNd (h n m : Nat) (s t : HS) : Prop := m ≤ 40 ∧ s.1 71 2 = I m ∧ t.1 135 5 = I m ∧ ∀ i, i < m → LNi h n (s.1 72 (3 * i)) (s.1 72 (3 * i + 1)) (s.1 72 (3 * i + 2)) (t.1 136 (200 + i)) (t.1 137 (200 + i)) (t.1 138 (200 + i))
def FSd (s s' : HS) : Prop := ∀ o k, o ≠ 36 → o ≠ 0 → o ≠ 71 → o ≠ 72 → s'.1 o k = s.1 o k ∧ s'.2.1 o k = s.2.1 o k
theorem cd_keep (hm : m < 40) (e : s.1 71 2 = I m) (w x y : Int32) : f_X1_keepLine w x y s = some (sI (sI (sI (sI s 72 (3 * m) w) 72 (3 * m + 1) x) 72 (3 * m + 2) y) 71 2 (I (m + 1))) := by
  have e3 : I m * 3 = I (3 * m) := by rw [show (3 : Int32) = I 3 from litI 3, I_mul, Nat.mul_comm]
  have e2 : I (3 * m) + 2 = I (3 * m + 2) := by rw [show (2 : Int32) = I 2 from litI 2, I_add]
  unfold f_X1_keepLine
  rw [e, e3, ltb_t, inb_t (by omega) (by omega), gd_t, I_nat (by omega), ltb_t, I_p1, inb_t (by omega) (by omega), gd_t, I_nat (by omega), ltb_t, e2, inb_t (by omega) (by omega), gd_t, I_nat (by omega), ltb_t, ltb_t]
  rw [sI_o _ _ _ _ (show 71 ≠ 72 from by decide), sI_o _ _ _ _ (show 71 ≠ 72 from by decide), sI_o _ _ _ _ (show 71 ≠ 72 from by decide), e, I_p1]
theorem d_dead (hm : m < 40) (w x y : Int32) : DK (fun s => s.1 71 2 = I m) (fun s => f_X1_readLine_j212 w x y s) := DK.go fun s D hQ => by
  unfold f_X1_readLine_j212
  rw [cd_keep hm hQ, bnd_t]
  have D2 : Dd (sI (sI (sI (sI s 72 (3 * m) w) 72 (3 * m + 1) x) 72 (3 * m + 2) y) 71 2 (I (m + 1))) := (((D.sI (by decide)).sI (by decide)).sI (by decide)).sI (by decide)
  rw [D2.takeSign, bnd_t]
  exact ⟨_, rfl, D2, by rw [sI_36 _ _ (by decide), sI_36 _ _ (by decide), sI_36 _ _ (by decide), sI_36 _ _ (by decide)]⟩
theorem d_fin {B0 B P : Nat} {W' : List (Nat × Nat × Int32)} (T : TK L B P s t) (hb : B0 < B) (c : Wc [] [] s0 s) (g : Wm W' [] t0 t) (hf : free5 W' []) (D : LNd h n m s0 t0) (hm : m < 40) (hW : ∀ o j d, (o < 136 ∨ 138 < o ∨ j ≠ 200 + m) → lk W' o j d = d) {w x y : Int32} (hL : LNi h n w x y (lk W' 136 (200 + m) (t0.1 136 (200 + m))) (lk W' 137 (200 + m) (t0.1 137 (200 + m))) (lk W' 138 (200 + m) (t0.1 138 (200 + m)))) :
    Res5 L B0 t0 (fun s' t' => LNd h n (m + 1) s' t' ∧ FSd s0 s' ∧ FR5 t0 t') (f_X1_readLine_j212 w x y s) (f_X12_readsLine_j308 t) := by
  obtain ⟨d1, d2, d3, d4⟩ := D
  have e71 : s.1 71 2 = I m := by rw [c.1 71 2 (by omega)]; exact d2
  have e135 : t.1 135 5 = I m := by rw [g.1 135 5 (by unfold Zm; omega), hW 135 5 _ (by omega)]; exact d3
  unfold f_X1_readLine_j212 f_X12_readsLine_j308
  rw [cd_keep hm e71, bnd_t, e135, I_p1, ltb_t]
  refine g5_close (((((T.cI (by decide)).cI (by decide)).cI (by decide)).cI (by decide)).mI (o := 135) ⟨Or.inl (by decide), by decide⟩) c.wI.wI.wI.wI (Wr.wI g) (free5_I hf (by unfold R5; omega)) hb (fun B' P' s' t' T' w' m' => ⟨⟨by omega, ?_, ?_, fun i hi => ?_⟩, fun o k z1 z2 z3 z4 => ?_, Wm.r5 m' (free5_I hf (by unfold R5; omega))⟩)
  · rw [w'.1 71 2 (by omega)]; simp only [lk]; rw [if_pos (by first | omega | simp)]
  · rw [m'.1 135 5 (by unfold Zm; omega)]; simp only [lk]; rw [if_pos (by first | omega | simp)]
  · have tt : ∀ o, 136 ≤ o → o ≤ 138 → t'.1 o (200 + i) = lk W' o (200 + i) (t0.1 o (200 + i)) := fun o h1 h2 => by
      rw [m'.1 o _ (by unfold Zm; omega)]
      show (if o = 135 ∧ 200 + i = 5 then _ else _) = _
      rw [if_neg (by omega)]
    rw [tt 136 (by omega) (by omega), tt 137 (by omega) (by omega), tt 138 (by omega) (by omega)]
    have ss : ∀ j, j < 3 → s'.1 72 (3 * i + j) = if i = m then (if j = 0 then w else if j = 1 then x else y) else s0.1 72 (3 * i + j) := fun j hj => by
      rw [w'.1 72 _ (by omega)]
      simp only [lk]
      by_cases z : i = m
      · subst z
        rw [if_pos rfl]
        rcases (show j = 0 ∨ j = 1 ∨ j = 2 from by omega) with rfl | rfl | rfl
        · rw [if_neg (by omega), if_neg (by omega), if_neg (by omega), if_pos (by first | omega | simp)]; rfl
        · rw [if_neg (by omega), if_neg (by omega), if_pos (by first | omega | simp)]; rfl
        · rw [if_neg (by omega), if_pos (by first | omega | simp)]; rfl
      · rw [if_neg z, if_neg (by omega), if_neg (by omega), if_neg (by omega), if_neg (by omega)]
    by_cases z : i = m
    · have a0 : s'.1 72 (3 * i) = w := by have := ss 0 (by omega); rw [if_pos z] at this; exact this
      have a1 : s'.1 72 (3 * i + 1) = x := by have := ss 1 (by omega); rw [if_pos z] at this; exact this
      have a2 : s'.1 72 (3 * i + 2) = y := by have := ss 2 (by omega); rw [if_pos z] at this; exact this
      rw [a0, a1, a2, z]
      exact hL
    · have a0 : s'.1 72 (3 * i) = s0.1 72 (3 * i) := by have := ss 0 (by omega); rw [if_neg z] at this; exact this
      have a1 : s'.1 72 (3 * i + 1) = s0.1 72 (3 * i + 1) := by have := ss 1 (by omega); rw [if_neg z] at this; exact this
      have a2 : s'.1 72 (3 * i + 2) = s0.1 72 (3 * i + 2) := by have := ss 2 (by omega); rw [if_neg z] at this; exact this
      rw [a0, a1, a2, hW 136 _ _ (by omega), hW 137 _ _ (by omega), hW 138 _ _ (by omega)]
      exact d4 i (by omega)
  · refine ⟨?_, ?_⟩
    · rw [w'.1 o k (by omega)]
      simp only [lk]
      rw [if_neg (by omega), if_neg (by omega), if_neg (by omega), if_neg (by omega)]
    · rw [w'.2 o k (by omega)]
      rfl
end DAYS
