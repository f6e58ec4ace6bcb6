section DLINE
variable {p L h n m c : Nat} {s t s0 t0 : HS}
theorem fails_1 (v : Int32) (u : HS) (K : HS → Option (Int32 × HS)) : (bnd2 (bnd2 (f_X12_fails v u) fun y5 s6 => if y5 = 0 then some ((0 : Int32), s6) else some (1, s6)) fun y36 s37 => if y36 = 0 then some (0, s37) else K s37) = bnd2 (f_X12_fails v u) fun y t' => gd (isb y) (some (y, t')) := by
  unfold f_X12_fails
  simp only [ltb_t, bnd2_t, show isb 0 = true from by decide, gd_t]
  rfl
theorem fails_2 (v : Int32) (u : HS) (K : HS → Option (Int32 × HS)) : (bnd2 (bnd2 (f_X12_fails v u) fun y8 s9 => gd (isb y8) (some (y8, s9))) fun y36 s37 => if y36 = 0 then some (0, s37) else K s37) = bnd2 (f_X12_fails v u) fun y t' => gd (isb y) (some (y, t')) := by
  unfold f_X12_fails
  simp only [ltb_t, bnd2_t, show isb 0 = true from by decide, gd_t]
  rfl
/-- the lines ahead stand; what is laid for this one is W' -/
theorem d_num {B0 B P : Nat} {W' : List (Nat × Nat × Int32)} (T : TK L B P s t) (hb : B0 < P) (cc : Wc [] [] s0 s) (g : Wm W' [] t0 t) (hf : free5 W' []) (D : LNd h n m s0 t0) (hm : m < 40) (hW : ∀ o j d, (o < 136 ∨ 138 < o ∨ j ≠ 200 + m) → lk W' o j d = d) {w x lo hi : Int32} (hL : ∀ v : Int32, lo.toInt ≤ v.toInt ∧ v.toInt ≤ hi.toInt → LNi h n w x v (lk W' 136 (200 + m) (t0.1 136 (200 + m))) (lk W' 137 (200 + m) (t0.1 137 (200 + m))) v) :
    Res5 L B0 t0 (fun s' t' => LNd h n (m + 1) s' t' ∧ FSd s0 s' ∧ FR5 t0 t') (bnd2 (f_X8_takeNumber lo hi s) fun y s' => f_X1_readLine_j212 w x y s') (f_X12_readsLine_j290 (I (200 + m)) hi lo t) := by
  have e71 : s.1 71 2 = I m := by rw [cc.1 71 2 (by omega)]; exact D.2.1
  have x240 : inb (I (200 + m)) 240 = true := inb_t (by omega) (by omega)
  have k240 : (I (200 + m)).toNatClampNeg = 200 + m := I_nat (by omega)
  unfold f_X12_readsLine_j290
  refine g5_num T cc g hf (Q := fun s => s.1 71 2 = I m) (d_dead hm w x 0) (fun s' f => by rw [LF1_o f (by decide) (by decide)]; exact e71) (fun B2 P2 s2 t2 v T2 hb2 hv w2 m2 _ => ?_)
  rw [x240, gd_t, k240, hv.1, ltb_t]
  refine d_fin (T2.mI (o := 138) ⟨Or.inl (by decide), by decide⟩) (by omega) w2 (Wr.wI m2) (free5_I hf (by unfold R5; omega)) D hm (fun o j d z => ?_) ?_
  · show (if o = 138 ∧ j = 200 + m then v else lk W' o j d) = d
    rw [if_neg (by omega), hW o j d z]
  · have a := hL v ⟨hv.2.1, hv.2.2.1⟩
    have e1 : lk ((138, 200 + m, v) :: W') 136 (200 + m) (t0.1 136 (200 + m)) = lk W' 136 (200 + m) (t0.1 136 (200 + m)) := if_neg (by omega)
    have e2 : lk ((138, 200 + m, v) :: W') 137 (200 + m) (t0.1 137 (200 + m)) = lk W' 137 (200 + m) (t0.1 137 (200 + m)) := if_neg (by omega)
    have e3 : lk ((138, 200 + m, v) :: W') 138 (200 + m) (t0.1 138 (200 + m)) = v := if_pos ⟨rfl, rfl⟩
    rw [e1, e2, e3]
    exact a
theorem r_dline (hp : okX4 p = true) {B P : Nat} (T : TK L B P s t) (hk : ¬ t.1 101 6 = 0) (C : CNT p 0 c h n s t) (N : NMS p 0 c h n s t) (D : LNd h n m s t) : Res5 L B t (fun s' t' => LNd h n (m + 1) s' t' ∧ FSd s s' ∧ FR5 t t') (f_X1_readLine p s) (f_X12_readsLine t) := by
  have hB := T.blt hk
  obtain ⟨dm, d71, d135, -⟩ := id D
  obtain ⟨⟨hc, hh, hn⟩, -, ⟨c12, g12⟩, ⟨c14, g14⟩⟩ := C
  obtain ⟨-, N2, N3⟩ := N
  have wb := (T.word (j := 0) (by omega)).2.2
  have hW : ∀ j, j < 37 → f_X12_isWord (w27 j) t = if s.2.2.2.2.2.2 = 1000 + j then 1 else 0 := fun j hj => by
    obtain ⟨a, b, -⟩ := T.word hj
    by_cases z : s.2.2.2.2.2.2 = 1000 + j
    · rw [if_pos z]; exact a.mp z
    · rw [if_neg z]; exact b.resolve_right (fun w => z (a.mpr w))
  have q20 := hW 20 (by omega); rw [show w27 20 = 11522 from by decide +kernel] at q20
  have q21 := hW 21 (by omega); rw [show w27 21 = 257 from by decide +kernel] at q21
  have q1 := hW 1 (by omega); rw [show w27 1 = 43347 from by decide +kernel] at q1
  have q22 := hW 22 (by omega); rw [show w27 22 = 15809 from by decide +kernel] at q22
  have q13 := hW 13 (by omega); rw [show w27 13 = 12528014 from by decide +kernel] at q13
  have q7 := hW 7 (by omega); rw [show w27 7 = 6257 from by decide +kernel] at q7
  have q23 := hW 23 (by omega); rw [show w27 23 = 13703 from by decide +kernel] at q23
  -- failing with the line's closing sign behind it
  have bad : ∀ (v : Int32), 1 ≤ v.toInt ∧ v.toInt ≤ 5 → Res5 L B t (fun s' t' => LNd h n (m + 1) s' t' ∧ FSd s s' ∧ FR5 t t') (bnd (f_X8_fail v s) fun s38 => bnd (f_X8_takeSign 59 s38) fun s40 => some s40) (bnd2 (f_X12_fails v t) fun y s' => gd (isb y) (some (y, s'))) := fun v hv => by
    refine g5_fail T Wr.nil free5_nil hv (Q := fun _ => True) (DK.go fun s D _ => ?_) (fun _ _ => trivial)
    rw [D.takeSign, bnd_t]
    exact ⟨s, rfl, D, rfl⟩
  -- a line that begins well: W in the reference, w in the class, z where it is out
  have x200 : (200 : Int32) + I m = I (200 + m) := by rw [show (200 : Int32) = I 200 from litI 200, I_add]
  have go : ∀ (W : Nat) (w w0 : Int32), W ≤ 6 → ¬ w = -1 → (w0 = 0 ∨ w0 = 1) → (∀ B1 P1 s1 t1, m < 40 → TK L B1 P1 s1 t1 → P ≤ B1 → Wc [] [] s s1 → Wm [] [] t t1 → Res5 L B t (fun s' t' => LNd h n (m + 1) s' t' ∧ FSd s s' ∧ FR5 t t') (f_X1_readLine_j85 p w 0 w0 s1) (if (1 : Int32) < I W then (if I W = 5 then bnd2 (f_X12_needsThing 0 (sI t1 136 (200 + m) (I W))) fun y36 s37 => (if y36 = 0 then some (0, s37) else ltb (sI s37 137 (200 + m) (s37.1 101 44)) fun s39 => bnd (f_X12_nextToken s39) fun s42 => f_X12_readsLine_j230 (I W) (I (200 + m)) s42) else f_X12_readsLine_j230 (I W) (I (200 + m)) (sI t1 136 (200 + m) (I W))) else (if (f_X12_isKept (sI t1 136 (200 + m) (I W))) = 0 then bnd (f_X12_buyerNamed 0 (sI t1 136 (200 + m) (I W))) fun y44 => ltb (sI (sI t1 136 (200 + m) (I W)) 137 (200 + m) y44) fun s45 => (if 0 ≤ (s45.1 137 (200 + m)) then bnd (f_X12_nextToken s45) fun s50 => f_X12_readsLine_j230 (I W) (I (200 + m)) s50 else bnd2 (f_X12_fails 2 s45) fun y51 s52 => gd (isb y51) (some (y51, s52))) else bnd2 (f_X12_fails 1 (sI t1 136 (200 + m) (I W))) fun y54 s55 => gd (isb y54) (some (y54, s55))))) → Res5 L B t (fun s' t' => LNd h n (m + 1) s' t' ∧ FSd s s' ∧ FR5 t t') (f_X1_readLine_j29 p w w0 s) (f_X12_readsLine_j100 (I W) t) := by
    intro W w w0 hW6 hw hw0 k
    unfold f_X1_readLine_j29 f_X12_readsLine_j100
    have p0 : (0 : Int32) ≤ I W := by rw [I0, I_le (by omega) (by omega)]; omega
    rw [if_neg hw, d71, d135, if_pos p0]
    by_cases z : m < 40
    · have p1 : I m < 40 := by rw [show (40 : Int32) = I 40 from litI 40, I_lt (by omega) (by omega)]; exact z
      have p2 : ¬ I m = 40 := by rw [show (40 : Int32) = I 40 from litI 40, I_inj (by omega) (by omega)]; omega
      rw [if_pos p1, if_neg p2]
      have i240 : inb (I (200 + m)) 240 = true := inb_t (by omega) (by omega)
      have k240 : (I (200 + m)).toNatClampNeg = 200 + m := I_nat (by omega)
      refine g5_step T Wr.nil Wr.nil (fun B1 P1 s1 t1 T1 hb1 w1 m1 _ _ => ?_)
      have e5 : t1.1 135 5 = I m := by rw [m1.1 135 5 (by unfold Zm; omega)]; exact d135
      have := k B1 P1 s1 t1 z T1 hb1 w1 m1
      rw [e5, x200]
      simp only [ltb_t, i240, gd_t, k240]
      have e : (if w0 = 0 then f_X1_readLine_j85 p w 0 0 s1 else f_X1_readLine_j85 p w 0 1 s1) = f_X1_readLine_j85 p w 0 w0 s1 := by
        rcases hw0 with rfl | rfl
        · rw [if_pos rfl]
        · rw [if_neg (by decide)]
      rw [e]
      simp only [ltb_t] at this
      exact this
    · have p1 : ¬ I m < 40 := by rw [show (40 : Int32) = I 40 from litI 40, I_lt (by omega) (by omega)]; exact z
      have p2 : I m = 40 := by rw [show (40 : Int32) = I 40 from litI 40, I_inj (by omega) (by omega)]; omega
      rw [if_neg p1, if_pos p2]
      exact bad 5 (by decide)
  -- what a line of a number alone comes to
  have num : ∀ (W : Nat) (w lo hi : Int32), 2 ≤ W → W ≤ 6 → W ≠ 5 → ∀ B1 P1 s1 t1, m < 40 → TK L B1 P1 s1 t1 → P ≤ B1 → Wc [] [] s s1 → Wm [] [] t t1 → (∀ v : Int32, lo.toInt ≤ v.toInt ∧ v.toInt ≤ hi.toInt → LNi h n w 0 v (I W) (t.1 137 (200 + m)) v) → (∀ u, f_X12_readsLine_j230 (I W) (I (200 + m)) u = f_X12_readsLine_j290 (I (200 + m)) hi lo u) → (∀ u w0, f_X1_readLine_j85 p w 0 w0 u = bnd2 (f_X8_takeNumber lo hi u) fun y s' => f_X1_readLine_j212 w 0 y s') → ∀ w0, Res5 L B t (fun s' t' => LNd h n (m + 1) s' t' ∧ FSd s s' ∧ FR5 t t') (f_X1_readLine_j85 p w 0 w0 s1) (f_X12_readsLine_j230 (I W) (I (200 + m)) (sI t1 136 (200 + m) (I W))) := by
    intro W w lo hi h2 h6 h5 B1 P1 s1 t1 hm T1 hb1 w1 m1 hL e1 e2 w0
    rw [e1, e2]
    have l1 := T1.le
    refine d_num (T1.mI (o := 136) ⟨Or.inl (by decide), by decide⟩) (by omega) w1 (Wr.wI m1) (free5_I free5_nil (by unfold R5; omega)) D hm (fun o j d z => by show (if o = 136 ∧ j = 200 + m then _ else d) = d; rw [if_neg (by omega)]) (fun v hv => ?_)
    have a1 : lk [(136, 200 + m, I W)] 136 (200 + m) (t.1 136 (200 + m)) = I W := if_pos ⟨rfl, rfl⟩
    have a2 : lk [(136, 200 + m, I W)] 137 (200 + m) (t.1 137 (200 + m)) = t.1 137 (200 + m) := if_neg (by omega)
    rw [a1, a2]
    exact hL v hv
  have i0 : (0 : Int32).toInt = 0 := by decide
  have i1 : (1 : Int32).toInt = 1 := by decide
  have i2 : (2 : Int32).toInt = 2 := by decide
  have i99 : (99 : Int32).toInt = 99 := by decide
  have i200 : (200 : Int32).toInt = 200 := by decide
  have i900 : (900 : Int32).toInt = 900 := by decide
  unfold f_X1_readLine
  rw [wb, gd_t, ltb_t, gd_t]
  unfold f_X12_readsLine f_X1_whatOf
  -- out and in
  have who : ∀ (W : Nat) (w0 : Int32), W ≤ 1 → (w0 = 1 ∧ W = 0) ∨ (w0 = 0 ∧ W = 1) → ∀ B1 P1 s1 t1, m < 40 → TK L B1 P1 s1 t1 → P ≤ B1 → Wc [] [] s s1 → Wm [] [] t t1 → Res5 L B t (fun s' t' => LNd h n (m + 1) s' t' ∧ FSd s s' ∧ FR5 t t') (f_X1_readLine_j85 p 3 0 w0 s1) (if (1 : Int32) < I W then (if I W = 5 then bnd2 (f_X12_needsThing 0 (sI t1 136 (200 + m) (I W))) fun y36 s37 => (if y36 = 0 then some (0, s37) else ltb (sI s37 137 (200 + m) (s37.1 101 44)) fun s39 => bnd (f_X12_nextToken s39) fun s42 => f_X12_readsLine_j230 (I W) (I (200 + m)) s42) else f_X12_readsLine_j230 (I W) (I (200 + m)) (sI t1 136 (200 + m) (I W))) else (if (f_X12_isKept (sI t1 136 (200 + m) (I W))) = 0 then bnd (f_X12_buyerNamed 0 (sI t1 136 (200 + m) (I W))) fun y44 => ltb (sI (sI t1 136 (200 + m) (I W)) 137 (200 + m) y44) fun s45 => (if 0 ≤ (s45.1 137 (200 + m)) then bnd (f_X12_nextToken s45) fun s50 => f_X12_readsLine_j230 (I W) (I (200 + m)) s50 else bnd2 (f_X12_fails 2 s45) fun y51 s52 => gd (isb y51) (some (y51, s52))) else bnd2 (f_X12_fails 1 (sI t1 136 (200 + m) (I W))) fun y54 s55 => gd (isb y54) (some (y54, s55)))) := by
    intro W w0 hW1 hw B1 P1 s1 t1 hm T1 hb1 w1 m1
    have l1 := T1.le
    have n1 : ¬ (1 : Int32) < I W := by rw [show (1 : Int32) = I 1 from litI 1, I_lt (by omega) (by omega)]; omega
    have T2 : TK L B1 P1 s1 (sI t1 136 (200 + m) (I W)) := T1.mI ⟨Or.inl (by decide), by decide⟩
    have m2 : Wm [(136, 200 + m, I W)] [] t (sI t1 136 (200 + m) (I W)) := Wr.wI m1
    have f2 : free5 [(136, 200 + m, I W)] [] := free5_I free5_nil (by unfold R5; omega)
    have e71 : s1.1 71 2 = I m := by rw [w1.1 71 2 (by omega)]; exact d71
    have q := p36 hp
    have q71 : p ≠ 36 ∧ p ≠ 0 := ⟨(q 0 (by omega)).1, (q 0 (by omega)).2.2.1⟩
    have c14' : s1.1 p 14 = I n := by rw [w1.1 p 14 (by omega)]; exact c14
    have g14' : (sI t1 136 (200 + m) (I W)).1 103 (10 * 0 + 2) = I n := by rw [sI_o _ _ _ _ (by decide), m1.1 103 _ (by unfold Zm; omega)]; exact g14
    have N3' : ∀ i, i < n → NMk (s1.2.1 (bS p i) 0) ((sI t1 136 (200 + m) (I W)).2.1 106 (6 * 0 + i)) := fun i hi => by
      have := N3 i hi
      have qq := q (14 + 2 * i) (by omega)
      rw [bS_e hp (by omega)] at this ⊢
      rw [w1.2 _ 0 (by omega)]
      show NMk _ (t1.2.1 106 (6 * 0 + i))
      rw [m1.2 106 _ (by unfold Zm; omega)]
      exact this
    rw [if_neg n1]
    unfold f_X1_readLine_j85 f_X8_takeKnown
    rw [if_pos (by decide)]
    obtain ⟨vk, hvk⟩ := cls_buyer1 hp hn c14' (s1.2.1 36 5)
    rw [hvk, bnd_t]
    rcases T2.name with ⟨e1, e2, e3, e4⟩ | ⟨e1, e2⟩
    · obtain ⟨v, a1, a2, a3⟩ := r_buyer hp (r := 0) (by omega) hn c14' g14' N3' e4 rfl
      have hv : vk = v := by rw [a1] at hvk; exact (Option.some.inj hvk).symm
      subst hv
      have a2 : f_X12_buyerNamed 0 (sI t1 136 (200 + m) (I W)) = some vk := a2
      rw [if_pos e2, a2, bnd_t, ltb_t, sI_k, e1, bnd_t, if_neg (by decide)]
      have T3 : TK L B1 P1 s1 (sI (sI t1 136 (200 + m) (I W)) 137 (200 + m) vk) := T2.mI ⟨Or.inl (by decide), by decide⟩
      have f3 := free5_I f2 (o := 137) (k := 200 + m) (x := vk) (by unfold R5; omega)
      rcases a3 with rfl | ⟨i, hi, rfl⟩
      · have nn : ¬ (0 : Int32) ≤ -1 := by decide
        rw [if_neg nn, if_neg nn, bnd2_bs]
        exact g5_fail T3 (Wr.wI m2) f3 (by decide) (Q := fun s => s.1 71 2 = I m) (d_dead hm 3 0 w0) (fun s' f => by rw [LF1_o f (by decide) (by decide)]; exact e71)
      · have pp : (0 : Int32) ≤ I i := by rw [I0, I_le (by omega) (by omega)]; omega
        rw [if_pos pp, if_pos pp, bnd2_bs]
        have j230 : ∀ u, f_X12_readsLine_j230 (I W) (I (200 + m)) u = f_X12_readsLine_j308 u := fun u => by
          unfold f_X12_readsLine_j230
          rw [if_pos (by rw [show (1 : Int32) = I 1 from litI 1, I_le (by omega) (by omega)]; omega)]
        simp only [j230]
        refine g5_step T3 w1 (Wr.wI m2) (fun B4 P4 s4 t4 T4 hb4 w4 m4 _ _ => ?_)
        refine d_fin T4 (by omega) w4 m4 f3 D hm (fun o j d z => by show (if o = 137 ∧ j = 200 + m then _ else if o = 136 ∧ j = 200 + m then _ else d) = d; rw [if_neg (by omega), if_neg (by omega)]) ?_
        have a1 : lk [(137, 200 + m, I i), (136, 200 + m, I W)] 136 (200 + m) (t.1 136 (200 + m)) = I W := by
          show (if (136 : Nat) = 137 ∧ _ then _ else if (136 : Nat) = 136 ∧ 200 + m = 200 + m then I W else _) = _
          rw [if_neg (by omega), if_pos ⟨rfl, rfl⟩]
        have a2 : lk [(137, 200 + m, I i), (136, 200 + m, I W)] 137 (200 + m) (t.1 137 (200 + m)) = I i := if_pos ⟨rfl, rfl⟩
        rw [a1, a2]
        refine Or.inl ⟨rfl, i, hi, rfl, rfl, ?_⟩
        rcases hw with ⟨rfl, rfl⟩ | ⟨rfl, rfl⟩
        · exact Or.inl ⟨rfl, rfl⟩
        · exact Or.inr ⟨rfl, rfl⟩
    · have nk : ¬ f_X12_isKept (sI t1 136 (200 + m) (I W)) = 0 := by rw [e2]; decide
      rw [if_neg nk, e1, bnd_t, if_pos (Eq.refl _), bnd2_bs]
      exact g5_fail T2 m2 f2 (by decide) (Q := fun s => s.1 71 2 = I m) (d_dead hm 3 0 w0) (fun s' f => by rw [LF1_o f (by decide) (by decide)]; exact e71)
  by_cases z20 : s.2.2.2.2.2.2 = 1020
  · rw [if_pos z20] at q20
    rw [q20, z20]
    exact go 0 3 1 (by omega) (by decide) (Or.inr rfl) (who 0 1 (by omega) (Or.inl ⟨rfl, rfl⟩))
  rw [if_neg z20] at q20
  rw [q20, if_pos (Eq.refl (0 : Int32)), if_neg z20, if_neg z20]
  by_cases z21 : s.2.2.2.2.2.2 = 1021
  · rw [if_pos z21] at q21
    rw [q21, z21]
    exact go 1 3 0 (by omega) (by decide) (Or.inl rfl) (who 1 0 (by omega) (Or.inr ⟨rfl, rfl⟩))
  rw [if_neg z21] at q21
  rw [q21, if_pos (Eq.refl (0 : Int32)), if_neg z21]
  have j85 : ∀ (w : Int32) u w0, ¬ w = 3 → ¬ w = 4 → f_X1_readLine_j85 p w 0 w0 u = (if w = 0 then bnd2 (f_X8_takeNumber 1 900 u) fun y23 s24 => f_X1_readLine_j212 w 0 y23 s24 else (if w = 1 then bnd2 (f_X8_takeNumber 0 200 u) fun y21 s22 => f_X1_readLine_j212 w 0 y21 s22 else (if w = 2 then bnd2 (f_X8_takeNumber 1 2 u) fun y19 s20 => f_X1_readLine_j212 w 0 y19 s20 else f_X1_readLine_j212 w 0 w0 u))) := fun w u w0 h3 h4 => by
    unfold f_X1_readLine_j85
    rw [if_neg h3, if_neg h4]
  by_cases z1 : s.2.2.2.2.2.2 = 1001
  · rw [if_pos z1] at q1
    rw [q1, z1]
    refine go 2 0 0 (by omega) (by decide) (Or.inl rfl) (fun B1 P1 s1 t1 hm T1 hb1 w1 m1 => ?_)
    rw [if_pos (by decide), if_neg (by decide)]
    exact num 2 0 1 900 (by omega) (by omega) (by omega) B1 P1 s1 t1 hm T1 hb1 w1 m1 (fun v hv => Or.inr (Or.inl ⟨rfl, rfl, rfl, by omega, by omega⟩)) (fun u => by unfold f_X12_readsLine_j230 f_X12_readsLine_j252 f_X12_readsLine_j257; rw [if_neg (by decide), if_neg (by decide), if_pos (by decide), if_pos (by decide)]) (fun u w0 => by rw [j85 _ _ _ (by decide) (by decide), if_pos (by decide)]) 0
  rw [if_neg z1] at q1
  rw [q1, if_pos (Eq.refl (0 : Int32)), if_neg z1]
  by_cases z22 : s.2.2.2.2.2.2 = 1022
  · rw [if_pos z22] at q22
    rw [q22, z22]
    refine go 3 1 0 (by omega) (by decide) (Or.inl rfl) (fun B1 P1 s1 t1 hm T1 hb1 w1 m1 => ?_)
    rw [if_pos (by decide), if_neg (by decide)]
    exact num 3 1 0 200 (by omega) (by omega) (by omega) B1 P1 s1 t1 hm T1 hb1 w1 m1 (fun v hv => Or.inr (Or.inr (Or.inl ⟨rfl, rfl, rfl, by omega, by omega⟩))) (fun u => by unfold f_X12_readsLine_j230 f_X12_readsLine_j257; rw [if_neg (by decide), if_neg (by decide), if_neg (by decide), if_neg (by decide), if_neg (by decide), if_pos (by decide)]) (fun u w0 => by rw [j85 _ _ _ (by decide) (by decide), if_neg (by decide), if_pos (by decide)]) 0
  rw [if_neg z22] at q22
  rw [q22, if_pos (Eq.refl (0 : Int32)), if_neg z22]
  by_cases z13 : s.2.2.2.2.2.2 = 1013
  · rw [if_pos z13] at q13
    rw [q13, z13]
    refine go 4 2 0 (by omega) (by decide) (Or.inl rfl) (fun B1 P1 s1 t1 hm T1 hb1 w1 m1 => ?_)
    rw [if_pos (by decide), if_neg (by decide)]
    exact num 4 2 1 2 (by omega) (by omega) (by omega) B1 P1 s1 t1 hm T1 hb1 w1 m1 (fun v hv => Or.inr (Or.inr (Or.inr (Or.inl ⟨rfl, rfl, rfl, by omega, by omega⟩)))) (fun u => by unfold f_X12_readsLine_j230 f_X12_readsLine_j252 f_X12_readsLine_j257; rw [if_neg (by decide), if_neg (by decide), if_neg (by decide), if_pos (by decide), if_neg (by decide), if_neg (by decide), if_pos (by decide)]) (fun u w0 => by rw [j85 _ _ _ (by decide) (by decide), if_neg (by decide), if_neg (by decide), if_pos (by decide)]) 0
  rw [if_neg z13] at q13
  rw [q13, if_pos (Eq.refl (0 : Int32)), if_neg z13]
  by_cases z7 : s.2.2.2.2.2.2 = 1007
  · rw [if_pos z7] at q7
    rw [q7, z7]
    refine go 5 4 0 (by omega) (by decide) (Or.inl rfl) (fun B1 P1 s1 t1 hm T1 hb1 w1 m1 => ?_)
    rw [if_pos (by decide), if_pos (by decide)]
    have l1 := T1.le
    have T2 : TK L B1 P1 s1 (sI t1 136 (200 + m) (I 5)) := T1.mI ⟨Or.inl (by decide), by decide⟩
    have m2 : Wm [(136, 200 + m, I 5)] [] t (sI t1 136 (200 + m) (I 5)) := Wr.wI m1
    have f2 : free5 [(136, 200 + m, I 5)] [] := free5_I free5_nil (by unfold R5; omega)
    have e71 : s1.1 71 2 = I m := by rw [w1.1 71 2 (by omega)]; exact d71
    have q := p36 hp
    have q71 : p ≠ 36 ∧ p ≠ 0 := ⟨(q 0 (by omega)).1, (q 0 (by omega)).2.2.1⟩
    have c12' : s1.1 p 12 = I h := by rw [w1.1 p 12 (by omega)]; exact c12
    have g12' : (sI t1 136 (200 + m) (I 5)).1 103 (10 * 0 + 1) = I h := by rw [sI_o _ _ _ _ (by decide), m1.1 103 _ (by unfold Zm; omega)]; exact g12
    have N2' : ∀ i, i < h → NMk (s1.2.1 (tS p i) 0) ((sI t1 136 (200 + m) (I 5)).2.1 105 (5 * 0 + i)) := fun i hi => by
      have := N2 i hi
      have qq := q (9 + i) (by omega)
      rw [tS_e hp (by omega)] at this ⊢
      rw [w1.2 _ 0 (by omega)]
      show NMk _ (t1.2.1 105 (5 * 0 + i))
      rw [m1.2 105 _ (by unfold Zm; omega)]
      exact this
    have dk : DK (fun s => s.1 71 2 = I m) (fun s => bnd2 (f_X8_takeNumber 0 99 s) fun y28 s29 => f_X1_readLine_j212 4 0 y28 s29) := DK.go fun s D hQ => by
      rw [D.num, bnd2_t]
      exact d_dead hm 4 0 0 s D hQ
    unfold f_X1_readLine_j85 f_X8_takeKnown f_X12_needsThing
    rw [if_neg (by decide), if_pos (by decide)]
    obtain ⟨vk, hvk⟩ := cls_thing1 hp hh c12' (s1.2.1 36 5)
    rw [hvk, bnd_t]
    rcases T2.name with ⟨e1, e2, e3, e4⟩ | ⟨e1, e2⟩
    · obtain ⟨v, a1, a2, a3⟩ := r_thing hp (r := 0) (by omega) hh c12' g12' N2' e4 rfl
      have hv : vk = v := by rw [a1] at hvk; exact (Option.some.inj hvk).symm
      subst hv
      have a2 : f_X12_thingNamed 0 (sI t1 136 (200 + m) (I 5)) = some vk := a2
      rw [if_pos e2, a2, bnd_t, ltb_t (a := sI (sI t1 136 (200 + m) (I 5)) 101 44 vk), sI_k, e1, bnd_t, if_neg (by decide)]
      have T3 : TK L B1 P1 s1 (sI (sI t1 136 (200 + m) (I 5)) 101 44 vk) := T2.mI ⟨Or.inr (by omega), by decide⟩
      have m3 : Wm [(136, 200 + m, I 5)] [] t (sI (sI t1 136 (200 + m) (I 5)) 101 44 vk) := m2.fr (fr_sI (by decide))
      rcases a3 with rfl | ⟨i, hi, rfl⟩
      · have nn : ¬ (0 : Int32) ≤ -1 := by decide
        rw [if_neg nn, if_neg nn, bnd2_bs]
        rw [fails_1]
        exact g5_fail T3 m3 f2 (by decide) (Q := fun s => s.1 71 2 = I m) dk (fun s' f => by rw [LF1_o f (by decide) (by decide)]; exact e71)
      · have pp : (0 : Int32) ≤ I i := by rw [I0, I_le (by omega) (by omega)]; omega
        have e44 : (sI (sI t1 136 (200 + m) (I 5)) 101 44 (I i)).1 101 44 = I i := sI_k _ _ _ _
        rw [if_pos pp, if_pos pp, bnd2_bs, bnd2_t, if_neg (by decide), ltb_t, e44]
        have T4 : TK L B1 P1 s1 (sI (sI (sI t1 136 (200 + m) (I 5)) 101 44 (I i)) 137 (200 + m) (I i)) := T3.mI ⟨Or.inl (by decide), by decide⟩
        have f3 := free5_I f2 (o := 137) (k := 200 + m) (x := I i) (by unfold R5; omega)
        have j230 : ∀ u, f_X12_readsLine_j230 (I 5) (I (200 + m)) u = f_X12_readsLine_j290 (I (200 + m)) 99 0 u := fun u => by
          unfold f_X12_readsLine_j230 f_X12_readsLine_j257
          rw [if_neg (by decide), if_neg (by decide), if_neg (by decide), if_neg (by decide), if_neg (by decide), if_neg (by decide), if_neg (by decide)]
        simp only [j230]
        refine g5_step T4 w1 (Wr.wI m3) (fun B4 P4 s4 t4 T5 hb4 w4 m4 _ _ => ?_)
        have l4 := T5.le
        refine d_num T5 (by omega) w4 m4 f3 D hm (fun o j d z => by show (if o = 137 ∧ j = 200 + m then _ else if o = 136 ∧ j = 200 + m then _ else d) = d; rw [if_neg (by omega), if_neg (by omega)]) (fun v hv => ?_)
        have a1 : lk [(137, 200 + m, I i), (136, 200 + m, I 5)] 136 (200 + m) (t.1 136 (200 + m)) = I 5 := by
          show (if (136 : Nat) = 137 ∧ _ then _ else if (136 : Nat) = 136 ∧ 200 + m = 200 + m then I 5 else _) = _
          rw [if_neg (by omega), if_pos ⟨rfl, rfl⟩]
        have a2 : lk [(137, 200 + m, I i), (136, 200 + m, I 5)] 137 (200 + m) (t.1 137 (200 + m)) = I i := if_pos ⟨rfl, rfl⟩
        rw [a1, a2]
        exact Or.inr (Or.inr (Or.inr (Or.inr (Or.inl ⟨rfl, rfl, ⟨rfl, by omega, by omega⟩, i, hi, rfl, rfl⟩))))
    · have nk : ¬ f_X12_isKept (sI t1 136 (200 + m) (I 5)) = 0 := by rw [e2]; decide
      rw [if_neg nk, e1, bnd_t, if_pos (Eq.refl _), bnd2_bs, fails_2]
      exact g5_fail T2 m2 f2 (by decide) (Q := fun s => s.1 71 2 = I m) dk (fun s' f => by rw [LF1_o f (by decide) (by decide)]; exact e71)
  rw [if_neg z7] at q7
  rw [q7, if_pos (Eq.refl (0 : Int32)), if_neg z7]
  by_cases z23 : s.2.2.2.2.2.2 = 1023
  · rw [if_pos z23] at q23
    rw [q23, z23]
    refine go 6 5 0 (by omega) (by decide) (Or.inl rfl) (fun B1 P1 s1 t1 hm T1 hb1 w1 m1 => ?_)
    rw [if_pos (by decide), if_neg (by decide), j85 _ _ _ (by decide) (by decide), if_neg (by decide), if_neg (by decide), if_neg (by decide)]
    have l1 := T1.le
    have j230 : ∀ u, f_X12_readsLine_j230 (I 6) (I (200 + m)) u = f_X12_readsLine_j308 u := fun u => by
      unfold f_X12_readsLine_j230
      rw [if_neg (by decide), if_pos (by decide)]
    rw [j230]
    exact d_fin (T1.mI (o := 136) ⟨Or.inl (by decide), by decide⟩) (by omega) w1 (Wr.wI m1) (free5_I free5_nil (by unfold R5; omega)) D hm (fun o j d z => by show (if o = 136 ∧ j = 200 + m then _ else d) = d; rw [if_neg (by omega)]) (Or.inr (Or.inr (Or.inr (Or.inr (Or.inr ⟨rfl, if_pos ⟨rfl, rfl⟩⟩)))))
  rw [if_neg z23] at q23
  rw [q23, if_pos (Eq.refl (0 : Int32)), if_neg z23]
  unfold f_X1_readLine_j29 f_X12_readsLine_j100
  rw [if_pos (Eq.refl _), if_neg (by decide)]
  exact bad 1 (by decide)
end DLINE
