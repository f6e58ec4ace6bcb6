/-! The rules' lines, of both: what is written, field by field -/
def lk (W : List (Nat × Nat × Int32)) (o k : Nat) (d : Int32) : Int32 :=
  match W with
  | [] => d
  | w :: W => if o = w.1 ∧ k = w.2.1 then w.2.2 else lk W o k d
def lkL (V : List (Nat × Nat × Int64)) (o k : Nat) (d : Int64) : Int64 :=
  match V with
  | [] => d
  | w :: V => if o = w.1 ∧ k = w.2.1 then w.2.2 else lkL V o k d
/-- where the tokens stand -/
def Zc (o k : Nat) : Prop := o = 36
def Zm (o k : Nat) : Prop := o = 101 ∧ ((4 ≤ k ∧ k ≤ 9) ∨ k = 44)
def Wr (Z : Nat → Nat → Prop) (W : List (Nat × Nat × Int32)) (V : List (Nat × Nat × Int64)) (s s' : HS) : Prop := (∀ o k, ¬ Z o k → s'.1 o k = lk W o k (s.1 o k)) ∧ ∀ o k, ¬ Z o k → s'.2.1 o k = lkL V o k (s.2.1 o k)
/-- all but row 1 -/
def R0 (o k : Nat) : Prop := ¬ Zm o k ∧ (o = 101 → k ≠ 30 ∧ k ≠ 31) ∧ (o = 103 → k < 10) ∧ ((o = 104 ∨ o = 106 ∨ o = 107 ∨ (113 ≤ o ∧ o ≤ 116) ∨ o = 118) → k < 6) ∧ ((o = 105 ∨ (108 ≤ o ∧ o ≤ 112)) → k < 5) ∧ (o = 117 → k < 18) ∧ (o = 119 → k < 4) ∧ ((o = 120 ∨ o = 121) → k < 1) ∧ (o = 122 → k < 1000) ∧ o ≠ 123 ∧ o ≠ 124
def FR0 (t t' : HS) : Prop := ∀ o k, R0 o k → t'.1 o k = t.1 o k ∧ (o ≠ 122 → t'.2.1 o k = t.2.1 o k)
theorem FR0.refl {t : HS} : FR0 t t := fun _ _ _ => ⟨rfl, fun _ => rfl⟩
theorem FR0.trans {a b c : HS} (h : FR0 a b) (g : FR0 b c) : FR0 a c := fun o k r => ⟨(g o k r).1.trans (h o k r).1, fun z => ((g o k r).2 z).trans ((h o k r).2 z)⟩
section WRS
variable {Z : Nat → Nat → Prop} {W : List (Nat × Nat × Int32)} {V : List (Nat × Nat × Int64)} {s s' s'' : HS}
theorem Wr.nil : Wr Z [] [] s s := ⟨fun _ _ _ => rfl, fun _ _ _ => rfl⟩
theorem Wr.fr {A : List (Nat × Nat)} (h : Wr Z W V s s') (f : Fr A s' s'') (hA : ∀ o k, ¬ Z o k → wm A o k = false) : Wr Z W V s s'' := ⟨fun o k z => (f.1 o k (hA o k z)).trans (h.1 o k z), fun o k z => (f.2.1 o k (hA o k z)).trans (h.2 o k z)⟩
theorem Wr.wI {o k : Nat} {x : Int32} (h : Wr Z W V s s') : Wr Z ((o, k, x) :: W) V s (sI s' o k x) := by
  refine ⟨fun o' k' z => ?_, fun o' k' z => h.2 o' k' z⟩
  show (sI s' o k x).1 o' k' = if o' = o ∧ k' = k then x else lk W o' k' (s.1 o' k')
  rw [sI_at, h.1 o' k' z]
  by_cases y : o' = o
  · by_cases v : k' = k
    · rw [if_pos y, if_pos v, if_pos ⟨y, v⟩]
    · rw [if_pos y, if_neg v, if_neg (fun q => v q.2)]
  · rw [if_neg y, if_neg (fun q => y q.1)]
theorem Wr.wL {o k : Nat} {x : Int64} (h : Wr Z W V s s') : Wr Z W ((o, k, x) :: V) s (sL s' o k x) := by
  refine ⟨fun o' k' z => h.1 o' k' z, fun o' k' z => ?_⟩
  show up2 s'.2.1 o k x o' k' = if o' = o ∧ k' = k then x else lkL V o' k' (s.2.1 o' k')
  unfold up2
  by_cases y : o' = o
  · by_cases v : k' = k
    · rw [if_pos y, if_pos v, if_pos ⟨y, v⟩]
    · rw [if_pos y, if_neg v, if_neg (fun q => v q.2), h.2 o' k' z]
  · rw [if_neg y, if_neg (fun q => y q.1), h.2 o' k' z]
theorem wm_LF1 (o k : Nat) (h : ¬ Zc o k) : ∀ x, x ≠ 0 → o = x → wm LF1 o k = false := fun x hx e => by
  subst e
  unfold Zc at h
  unfold wm LF1
  simp only [List.any_cons, List.any_nil, Bool.or_false, Bool.or_eq_false_iff, Bool.and_eq_false_iff, beq_eq_false_iff_ne]
  omega
theorem wm_LF2 (o k : Nat) (h : ¬ Zm o k) : wm LF2 o k = false := by
  unfold Zm at h
  unfold wm LF2
  simp only [List.any_cons, List.any_nil, Bool.or_false, Bool.or_eq_false_iff, Bool.and_eq_false_iff, beq_eq_false_iff_ne]
  omega
end WRS
/-- of the class: nothing stands at object 0 -/
def Wc (W : List (Nat × Nat × Int32)) (V : List (Nat × Nat × Int64)) (s s' : HS) : Prop := Wr (fun o k => o = 36 ∨ o = 0) W V s s'
def Wm (W : List (Nat × Nat × Int32)) (V : List (Nat × Nat × Int64)) (t t' : HS) : Prop := Wr Zm W V t t'
theorem Wc.fr {W V} {s s' s'' : HS} (h : Wc W V s s') (f : Fr LF1 s' s'') : Wc W V s s'' := Wr.fr h f (fun o k z => wm_LF1 o k (fun q => z (Or.inl q)) o (fun q => z (Or.inr q)) rfl)
theorem Wm.fr {W V} {t t' t'' : HS} (h : Wm W V t t') (f : Fr LF2 t' t'') : Wm W V t t'' := Wr.fr h f (fun o k z => wm_LF2 o k z)
/-- what a line comes to -/
def Res (L B : Nat) (t0 : HS) (G : HS → HS → Prop) (x : Option HS) (y : Option (Int32 × HS)) : Prop := (∃ B' P' s' t', x = some s' ∧ y = some (1, t') ∧ TK L B' P' s' t' ∧ B < B' ∧ G s' t') ∨ (∃ s' t', x = some s' ∧ y = some (0, t') ∧ BD s' t' ∧ FR0 t0 t')
/-- on a dead tape K leaves it dead; Q is what it needs besides -/
def DK (Q : HS → Prop) (K : HS → Option HS) : Prop := ∀ s, Dd s → Q s → ∃ s', K s = some s' ∧ Dd s' ∧ s'.1 36 9 = s.1 36 9
def free (W : List (Nat × Nat × Int32)) (V : List (Nat × Nat × Int64)) : Prop := (∀ w, w ∈ W → ¬ R0 w.1 w.2.1) ∧ ∀ w, w ∈ V → ¬ R0 w.1 w.2.1
theorem lk_free {W : List (Nat × Nat × Int32)} {o k : Nat} {d : Int32} (h : ∀ w, w ∈ W → ¬ R0 w.1 w.2.1) (r : R0 o k) : lk W o k d = d := by
  induction W with
  | nil => rfl
  | cons w W ih =>
    show (if o = w.1 ∧ k = w.2.1 then w.2.2 else lk W o k d) = d
    rw [if_neg (fun q => h w List.mem_cons_self (by rw [← q.1, ← q.2]; exact r)), ih (fun v hv => h v (List.mem_cons_of_mem _ hv))]
theorem lkL_free {W : List (Nat × Nat × Int64)} {o k : Nat} {d : Int64} (h : ∀ w, w ∈ W → ¬ R0 w.1 w.2.1) (r : R0 o k) : lkL W o k d = d := by
  induction W with
  | nil => rfl
  | cons w W ih =>
    show (if o = w.1 ∧ k = w.2.1 then w.2.2 else lkL W o k d) = d
    rw [if_neg (fun q => h w List.mem_cons_self (by rw [← q.1, ← q.2]; exact r)), ih (fun v hv => h v (List.mem_cons_of_mem _ hv))]
theorem Wm.r0 {W V} {t t' : HS} (h : Wm W V t t') (f : free W V) : FR0 t t' := fun o k r => ⟨by rw [h.1 o k r.1, lk_free f.1 r], fun _ => by rw [h.2 o k r.1, lkL_free f.2 r]⟩
section FIELDS
variable {L B0 B P : Nat} {s0 t0 s t : HS} {W : List (Nat × Nat × Int32)} {V : List (Nat × Nat × Int64)} {W' : List (Nat × Nat × Int32)} {V' : List (Nat × Nat × Int64)} {G : HS → HS → Prop}
/-- a number alone -/
theorem f_num (T : TK L B P s t) (c : Wc W V s0 s) (m : Wm W' V' t0 t) (hf : free W' V') {lo hi : Int32} {K : Int32 → HS → Option HS} {M : HS → Option (Int32 × HS)} {Q : HS → Prop} (hK : DK Q (K 0)) (hQ : ∀ s', Fr LF1 s s' → Q s')
    (go : ∀ B' P' s' t' v, TK L B' P' s' t' → P ≤ B' → (t'.1 101 44 = v ∧ lo.toInt ≤ v.toInt ∧ v.toInt ≤ hi.toInt ∧ 0 ≤ v.toInt) → Wc W V s0 s' → Wm W' V' t0 t' → Fr LF1 s s' → Res L B0 t0 G (K v s') (M t')) :
    Res L B0 t0 G (bnd2 (f_X8_takeNumber lo hi s) fun y s' => K y s') (bnd2 (f_X12_needsNumber lo hi t) fun y t' => if y = 0 then some (0, t') else M t') := by
  rcases T.tnum lo hi with ⟨B', P', s', t', v, p1, p2, p3, p4, p5, p6, p7⟩ | ⟨s', t', p1, p2, p3, p4, p5⟩
  · rw [p1, p2, bnd2_t, bnd2_t, if_neg (by decide)]
    exact go B' P' s' t' v p3 p4 p5 (c.fr p6) (m.fr p7) p6
  · rw [p1, p2, bnd2_t, bnd2_t, if_pos (Eq.refl _)]
    obtain ⟨s2, k1, k2, k3⟩ := hK s' p3.1 (hQ s' p4)
    exact Or.inr ⟨s2, t', k1, rfl, ⟨k2, by rw [k3]; exact p3.2⟩, (m.fr p5).r0 hf⟩
/-- a word and a number -/
theorem f_both (T : TK L B P s t) (c : Wc W V s0 s) (m : Wm W' V' t0 t) (hf : free W' V') {j a : Nat} {w : Int64} (hj : j < 37) (ha : a = 1000 + j) (hw : w27 j = w) {lo hi : Int32} {K : Int32 → HS → Option HS} {M : HS → Option (Int32 × HS)} {Q : HS → Prop} (hK : DK Q (K 0)) (hQ : ∀ s', Fr LF1 s s' → Q s')
    (go : ∀ B' P' s' t' v, TK L B' P' s' t' → P ≤ B' → (t'.1 101 44 = v ∧ lo.toInt ≤ v.toInt ∧ v.toInt ≤ hi.toInt ∧ 0 ≤ v.toInt) → Wc W V s0 s' → Wm W' V' t0 t' → Fr LF1 s s' → Res L B0 t0 G (K v s') (M t')) :
    Res L B0 t0 G (bnd (f_X8_take a s) fun s1 => bnd2 (f_X8_takeNumber lo hi s1) fun y s' => K y s') (bnd2 (f_X12_needsBoth w lo hi t) fun y t' => if y = 0 then some (0, t') else M t') := by
  subst ha; subst hw
  obtain ⟨s1, a1, a2, a3⟩ := T.tboth hj lo hi
  rw [a1, bnd_t]
  rcases a3 with ⟨B', P', s', t', v, p1, p2, p3, p4, p5, p6, p7⟩ | ⟨s', t', p1, p2, p3, p4, p5⟩
  · rw [p1, p2, bnd2_t, bnd2_t, if_neg (by decide)]
    exact go B' P' s' t' v p3 p4 p5 (c.fr p6) (m.fr p7) p6
  · rw [p1, p2, bnd2_t, bnd2_t, if_pos (Eq.refl _)]
    obtain ⟨s2, k1, k2, k3⟩ := hK s' p3.1 (hQ s' p4)
    exact Or.inr ⟨s2, t', k1, rfl, ⟨k2, by rw [k3]; exact p3.2⟩, (m.fr p5).r0 hf⟩
/-- a word alone -/
theorem f_word (T : TK L B P s t) (c : Wc W V s0 s) (m : Wm W' V' t0 t) (hf : free W' V') {j a : Nat} {w : Int64} (hj : j < 37) (ha : a = 1000 + j) (hw : w27 j = w) {K : HS → Option HS} {M : HS → Option (Int32 × HS)} {Q : HS → Prop} (hK : DK Q K) (hQ : ∀ s', Fr LF1 s s' → Q s')
    (go : ∀ B' P' s' t', TK L B' P' s' t' → P ≤ B' → Wc W V s0 s' → Wm W' V' t0 t' → Fr LF1 s s' → Res L B0 t0 G (K s') (M t')) :
    Res L B0 t0 G (bnd (f_X8_take a s) fun s1 => K s1) (bnd2 (f_X12_needsWord w t) fun y t' => if y = 0 then some (0, t') else M t') := by
  subst ha; subst hw
  rcases T.tword hj with ⟨B', P', s', t', p1, p2, p3, p4, p6, p7⟩ | ⟨s', t', p1, p2, p3, p4, p5⟩
  · rw [p1, p2, bnd_t, bnd2_t, if_neg (by decide)]
    exact go B' P' s' t' p3 p4 (c.fr p6) (m.fr p7) p6
  · rw [p1, p2, bnd_t, bnd2_t, if_pos (Eq.refl _)]
    obtain ⟨s2, k1, k2, k3⟩ := hK s' p3.1 (hQ s' p4)
    exact Or.inr ⟨s2, t', k1, rfl, ⟨k2, by rw [k3]; exact p3.2⟩, (m.fr p5).r0 hf⟩
/-- one token on -/
theorem f_step (T : TK L B P s t) (c : Wc W V s0 s) (m : Wm W' V' t0 t) {K : HS → Option HS} {M : HS → Option (Int32 × HS)}
    (go : ∀ B' P' s' t', TK L B' P' s' t' → P ≤ B' → Wc W V s0 s' → Wm W' V' t0 t' → Fr LT1 s s' → Fr LT2 t t' → Res L B0 t0 G (K s') (M t')) :
    Res L B0 t0 G (bnd (f_X8_step s) fun s1 => K s1) (bnd (f_X12_nextToken t) fun t' => M t') := by
  obtain ⟨B', P', s', t', q1, q2, q3, q4, q5, q6⟩ := T.next
  rw [q1, q2, bnd_t, bnd_t]
  exact go B' P' s' t' q3 q4 (c.fr (q5.mono (by decide))) (m.fr (q6.mono (by decide))) q5 q6
/-- both fail here -/
theorem f_fail (T : TK L B P s t) (m : Wm W' V' t0 t) (hf : free W' V') {v : Int32} (hv : 1 ≤ v.toInt ∧ v.toInt ≤ 5) {K : HS → Option HS} {Q : HS → Prop} (hK : DK Q K) (hQ : ∀ s', Fr LF1 s s' → Q s') : Res L B0 t0 G (bnd (f_X8_fail v s) fun s1 => K s1) (bnd2 (f_X12_fails v t) fun y t' => gd (isb y) (some (y, t'))) := by
  obtain ⟨s', t', q1, q2, q3, q4, q5⟩ := T.fail hv
  rw [q1, q2, bnd_t, bnd2_t, show isb 0 = true from by decide, gd_t]
  obtain ⟨s2, k1, k2, k3⟩ := hK s' q3.1 (hQ s' q4)
  exact Or.inr ⟨s2, t', k1, rfl, ⟨k2, by rw [k3]; exact q3.2⟩, (m.fr q5).r0 hf⟩
/-- the closing sign -/
theorem f_close (T : TK L B P s t) (c : Wc W V s0 s) (m : Wm W' V' t0 t) (hf : free W' V') (hb : B0 < B) (hG : ∀ B' P' s' t', TK L B' P' s' t' → Wc W V s0 s' → Wm W' V' t0 t' → G s' t') : Res L B0 t0 G (bnd (f_X8_takeSign 59 s) fun s9 => some s9) (bnd2 (f_X12_closes t) fun y t' => gd (isb y) (some (y, t'))) := by
  rcases T.tsign with ⟨B', P', s', t', p1, p2, p3, p4, p6, p7⟩ | ⟨s', t', p1, p2, p3, p4, p5⟩
  · rw [p1, p2, bnd_t, bnd2_t, show isb 1 = true from by decide, gd_t]
    have := T.le
    exact Or.inl ⟨B', P', s', t', rfl, rfl, p3, by omega, hG B' P' s' t' p3 (c.fr p6) (m.fr p7)⟩
  · rw [p1, p2, bnd_t, bnd2_t, show isb 0 = true from by decide, gd_t]
    exact Or.inr ⟨s', t', rfl, rfl, p3, (m.fr p5).r0 hf⟩
end FIELDS
