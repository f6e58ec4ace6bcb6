/-! order: a part, of both -/
section PART
variable {p L : Nat}
theorem m_gate {B P d : Nat} {s t : HS} (f : Nat) : f_X12_reads_l11 KK (f + 1) (I d) (I 1) t = ltb (f_X12_fact t) fun x50 => ltb (f_X12_isWord 10631 t) fun x51 => bnd (f_X12_isSign 40 t) fun y52 => (if x50 = 0 then (if x51 = 0 then (if y52 = 0 then (if (t.1 101 6) = 2 then f_X12_reads_j65 (I d) (I 1) x50 x51 y52 (f_X12_reads_l11 KK f) t else bnd2 (f_X12_fails 1 t) fun y85 s86 => gd (isb y85) (some (y85, s86))) else f_X12_reads_j65 (I d) (I 1) x50 x51 y52 (f_X12_reads_l11 KK f) t) else f_X12_reads_j65 (I d) (I 1) x50 x51 y52 (f_X12_reads_l11 KK f) t) else f_X12_reads_j65 (I d) (I 1) x50 x51 y52 (f_X12_reads_l11 KK f) t) := by
  simp only [f_X12_reads_l11]
  unfold f_X12_reads_l11b
  rw [if_neg (by decide)]
/-- failing at a part -/
theorem bad1 (hp : okX4 p = true) {B P d : Nat} {s t : HS} {C : List Int32} (T : TK L B P s t) (h : CCs p C s) (hl : C.length ≤ 1000) {v : Int32} (hv : 1 ≤ v.toInt ∧ v.toInt ≤ 5) {w : Nat} (hm : ∀ f, f_X12_reads_l11 KK (f + 1) (I d) (I w) t = bnd2 (f_X12_fails v t) fun y s => gd (isb y) (some (y, s))) : ∃ s', (bnd (f_X8_fail v s) fun s => some s) = some s' ∧ Bad p L d B w t s' := by
  obtain ⟨s', t', q1, q2, q3, q4, q5⟩ := fail1 hp T h hl hv
  refine ⟨s', by rw [q1, bnd_t], t', q3, q4, q5, fun f hf => ?_⟩
  obtain ⟨f', rfl⟩ := fuelS hf
  rw [hm, q2, bnd2_t, show isb 0 = true from by decide, gd_t]
/-- a number or a fact: one code of both -/
theorem leaf1 (hp : okX4 p = true) {B P d k : Nat} (hd : d ≤ 4) {s t : HS} {C R : List Int32} (T : TK L B P s t) (hb : B < P ∧ P ≤ L ∧ L ≤ 1000) (h : CCs p C s) (g : RCs R t) (hC : C.length + k ≤ B) (hR : R.length ≤ B) (h4 : t.1 124 d = 0 ∨ t.1 124 d = 1) {a b : Int32} {E : OF} (hE : PR 0 d [a] [b] E) (hm : ∀ f, f_X12_reads_l11 KK (f + 1) (I d) (I 1) t = f_X12_reads_j147 (I d) b (f_X12_reads_l11 KK f) t) : ∃ s', (bnd (f_X2_add (p + 2) a s) fun s12 => bnd (f_X8_step s12) fun s14 => some s14) = some s' ∧ Okk p L 0 d k B 1 C R t s' := by
  obtain ⟨s1, a1, a2, -, -, a3⟩ := add1 hp h (by omega) a
  obtain ⟨t1, b1, b2, b3, b4, b5, b6⟩ := put1 T g (by omega) b
  obtain ⟨B', P', s2, t2, c1, c2, c3, c4, c5, c6, c7, c8, c9⟩ := nx1 hp (a3 B P t1 b3)
  have hb' := c3.le
  refine ⟨s2, by rw [a1, bnd_t, c1, bnd_t], B', P', t2, [a], [b], E, c3, by omega, c5 _ a2, c6 _ b2, ⟨?_, ?_⟩, hE, ⟨fun j _ => by rw [c7, b4], fun j _ _ => by rw [c8, b5], by rw [c8, b5]; exact h4, fun j hj => by rw [c9]; exact b6 j hj⟩, ⟨fun q => absurd q (by omega), fun q => absurd q (by omega), fun q => absurd q (by omega), fun q => absurd q (by omega)⟩, fun f hf => ?_⟩
  · rw [List.length_append]; show C.length + 1 + k ≤ B'; omega
  · rw [List.length_append]; show R.length + 1 ≤ B'; omega
  · obtain ⟨f', rfl⟩ := fuelS hf
    refine ⟨f', by omega, ?_⟩
    rw [hm]
    unfold f_X12_reads_j147
    rw [b1, bnd_t, m_pop _ d (by omega) FU (FU_lt (by omega)), b4, c2, bnd_t, ← I0]
theorem KK_e (v : Int32) (s : HS) : KK v s = f_X12_reads_j399 v s := rfl
theorem PS0 (hp : okX4 p = true) {n d : Nat} (hd : d ≤ 5) (ih : d ≤ 4 → PS p L n 0 (d + 1) ∧ PS p L n 4 (d + 1)) : PS p L (n + 1) 0 d := by
  obtain ⟨gt1, gt2⟩ := c_gate hd
  constructor
  · intro B P s t C R k T h g hC hR h4 _ _
    have hle := T.le
    obtain ⟨sg, -, -⟩ := T.sign 40
    show ∃ s', f_X3_readPartb (f_X3_readPart n) (p + 2) (I d) s = some s' ∧ _
    obtain ⟨wb, K⟩ := T.part
    rcases K with ⟨k1, k2, k3, k4, k5⟩ | ⟨i, i1, k1, k2, k3, k4, k5⟩ | ⟨k1, k2, k3, k4, k5⟩ | ⟨k1, k2, k3, k4, k5⟩ | ⟨k1, k2, k3, k4, k5, k6⟩
    · -- a number
      rw [c_num _ _ _ k2 (T.kind.trans k1), k5, if_pos (Eq.refl _)]
      have M : ∀ f, f_X12_reads_l11 KK (f + 1) (I d) (I 1) t = f_X12_reads_j65 (I d) (I 1) 0 0 0 (f_X12_reads_l11 KK f) t := fun f => by
        rw [m_gate (B := B) (P := P) (s := s), k3, k4, sg, k5, ltb_t, ltb_t, bnd_t, if_pos (Eq.refl _), if_pos (Eq.refl _), if_pos (Eq.refl _), if_pos k1]
      by_cases z : d ≤ 4
      · obtain ⟨N, N1, N2, N3⟩ := T.numv k1
        rw [if_pos (gt1.mpr z), N2]
        obtain ⟨s', a1, a2⟩ := leaf1 hp z T (T.blt (by rw [k1]; decide)) h g hC hR h4 (PR.num z N1) (fun f => by
          rw [M]
          unfold f_X12_reads_j65
          rw [if_neg (fun q => by have := gt2.mp q; omega), if_pos (Eq.refl _), if_pos (Eq.refl _), if_pos (Int32.le_refl _), N3, show (100 : Int32) = I 100 from litI 100, I_add])
        exact ⟨s', a1, Or.inl a2⟩
      · rw [if_neg (fun q => z (gt1.mp q))]
        obtain ⟨s', a1, a2⟩ := bad1 hp T h (by omega) (v := 5) (by decide) (fun f => by
          rw [M]
          unfold f_X12_reads_j65
          rw [if_pos (gt2.mpr (by omega))])
        exact ⟨s', a1, Or.inr a2⟩
    · -- a fact
      rw [c_fact _ _ _ i1 k1 (by rw [T.kind]; exact k5) k4]
      have M : ∀ f, f_X12_reads_l11 KK (f + 1) (I d) (I 1) t = f_X12_reads_j65 (I d) (I 1) (I (i + 1)) 0 0 (f_X12_reads_l11 KK f) t := fun f => by
        rw [m_gate (B := B) (P := P) (s := s), k2, k3, sg, k4, ltb_t, ltb_t, bnd_t, if_neg (by rw [I0, I_inj (by omega) (by omega)]; omega)]
      by_cases z : d ≤ 4
      · rw [if_pos (gt1.mpr z)]
        obtain ⟨s', a1, a2⟩ := leaf1 hp z T (T.wblt (by omega)) h g hC hR h4 (PR.fact z i1) (fun f => by
          rw [M]
          unfold f_X12_reads_j65
          rw [if_neg (fun q => by have := gt2.mp q; omega), if_pos (Eq.refl _), if_pos (Eq.refl _), if_neg (by rw [I0, I_le (by omega) (by omega)]; omega)])
        exact ⟨s', a1, Or.inl a2⟩
      · rw [if_neg (fun q => z (gt1.mp q))]
        obtain ⟨s', a1, a2⟩ := bad1 hp T h (by omega) (v := 5) (by decide) (fun f => by
          rw [M]
          unfold f_X12_reads_j65
          rw [if_pos (gt2.mpr (by omega))])
        exact ⟨s', a1, Or.inr a2⟩
    · -- not
      rw [c_not _ _ _ k1 (by rw [T.kind]; exact k5)]
      have M : ∀ f, f_X12_reads_l11 KK (f + 1) (I d) (I 1) t = f_X12_reads_j65 (I d) (I 1) 0 1 0 (f_X12_reads_l11 KK f) t := fun f => by
        rw [m_gate (B := B) (P := P) (s := s), k2, k3, sg, k4, ltb_t, ltb_t, bnd_t, if_pos (Eq.refl _), if_neg (by decide)]
      by_cases z : d ≤ 4
      · rw [if_pos (gt1.mpr z)]
        have hb := T.wblt (by omega)
        obtain ⟨t1, b1, b2, b3, b4, b5, b6⟩ := put1 T g (by omega) 30
        have T1 : TK L B P s (sI (sI t1 123 (d + 1) 1) 124 (d + 1) 0) := (b3.mI ⟨Or.inl (by decide), by decide⟩).mI ⟨Or.inl (by decide), by decide⟩
        obtain ⟨B1, P1, s2, t2, c1, c2, c3, c4, c5, c6, c7, c8, c9⟩ := nx1 hp T1
        have hb1 := c3.le
        have e123 : ∀ j, t2.1 123 j = if j = d + 1 then 1 else t.1 123 j := fun j => by
          rw [c7, sI_n _ _ _ (show 123 ≠ 124 from by decide), sI_s, b4]
        have e124 : ∀ j, t2.1 124 j = if j = d + 1 then 0 else t.1 124 j := fun j => by
          rw [c8, sI_s, sI_n _ _ _ (show 124 ≠ 123 from by decide), b5]
        have e122 : ∀ j, j < 1000 → t2.1 122 j = t.1 122 j := fun j hj => by
          rw [c9, sI_n _ _ _ (show 122 ≠ 124 from by decide), sI_n _ _ _ (show 122 ≠ 123 from by decide)]; exact b6 j hj
        have rc : RCs (R ++ [30]) t2 := c6 _ ((b2.cg (by rw [sI_n _ _ _ (show 101 ≠ 124 from by decide), sI_n _ _ _ (show 101 ≠ 123 from by decide)]) (by rw [sI_n _ _ _ (show 122 ≠ 124 from by decide), sI_n _ _ _ (show 122 ≠ 123 from by decide)])))
        have G1 : GoOn L B B1 d 1 (d + 1) 1 t t2 := fun f hf => by
          obtain ⟨f', rfl⟩ := fuelS hf
          refine ⟨f', by omega, ?_⟩
          rw [M]
          unfold f_X12_reads_j65 f_X12_reads_j86 f_X12_reads_j99 f_X12_reads_j120
          have i7 : inb (I (d + 1)) 7 = true := inb_t (by omega) (by omega)
          rw [if_neg (fun q => by have := gt2.mp q; omega), if_neg (by decide), if_neg (by decide), b1, bnd_t, I_p1, ltb_t, if_neg (by decide), i7, gd_t, I_nat (show d + 1 < 2147483648 from by omega), ltb_t, gd_t, nar0, ltb_t, c2, bnd_t]
        obtain ⟨⟨A, D⟩, -⟩ := ih z
        have hpop : popd (t2.1 123) (d + 1) = popd (t.1 123) d := by
          show (if t2.1 123 (d + 1) = 1 then popd (t2.1 123) d else d + 1) = _
          rw [if_pos (by rw [e123, if_pos (Eq.refl _)])]
          exact popd_cg (fun j hj => by rw [e123, if_neg (by omega)])
        obtain ⟨s3, d1, d2⟩ := A B1 P1 s2 t2 C (R ++ [30]) (k + 1) c3 (c5 _ h) rc (by omega) (by rw [List.length_append]; show R.length + 1 ≤ B1; omega) (Or.inl (by rw [e124, if_pos (Eq.refl _)])) (fun q => absurd q (by omega)) (fun q => absurd q (by omega))
        rw [c1, bnd_t, I_p1]
        have d1 : f_X3_readPart n (p + 2) (I (d + 1)) s2 = some s3 := d1
        rw [d1, bnd_t]
        rcases d2 with ⟨B', P', t', C', R', E, o1, o2, o3, o4, ⟨o5, o6⟩, o7, ⟨o8, o9, o10, o11⟩, o12, o13⟩ | ⟨t', o1, o2, o3, o4⟩
        · have hb2 := o1.le
          obtain ⟨s4, u1, u2, -, -, u3⟩ := add1 hp o3 (by omega) (-5)
          refine ⟨s4, by rw [u1, bnd_t], Or.inl ⟨B', P', t', C' ++ [-5], 30 :: R', _, u3 _ _ _ o1, by omega, ?_, ?_, ⟨?_, ?_⟩, PR.nt o7, ⟨fun j hj => ?_, fun j hj hj2 => ?_, ?_, fun j hj => ?_⟩, ⟨fun q => absurd q (by omega), fun q => absurd q (by omega), fun q => absurd q (by omega), fun q => absurd q (by omega)⟩, ?_⟩⟩
          · rw [← List.append_assoc]; exact u2
          · rw [List.append_assoc] at o4; exact o4
          · rw [← List.append_assoc, List.length_append]; show (C ++ C').length + 1 + k ≤ B'; omega
          · rw [List.append_assoc] at o6; exact o6
          · rw [o8 j (by omega), e123, if_neg (by omega)]
          · rw [o9 j (by omega) (Or.inr (by omega)), e124, if_neg (by omega)]
          · rw [o9 d (by omega) (Or.inr (by omega)), e124, if_neg (by omega)]; exact h4
          · rw [o11 j hj, e122 j hj]
          · rw [hpop] at o13
            exact G1.trans o13
        · obtain ⟨s4, u1, u2, u3⟩ := o2.add hp (-5)
          refine ⟨s4, by rw [u1, bnd_t], Or.inr ⟨t', ⟨u2.1, by rw [u3]; exact o1.2⟩, u2, fun j hj => by rw [o3 j hj, e122 j hj], G1.ends o4⟩⟩
      · rw [if_neg (fun q => z (gt1.mp q))]
        obtain ⟨s', a1, a2⟩ := bad1 hp T h (by omega) (v := 5) (by decide) (fun f => by
          rw [M]
          unfold f_X12_reads_j65
          rw [if_pos (gt2.mpr (by omega))])
        exact ⟨s', a1, Or.inr a2⟩
    · -- in brackets
      rw [c_par _ _ _ k1 (by rw [T.kind]; exact k5) k4]
      have M : ∀ f, f_X12_reads_l11 KK (f + 1) (I d) (I 1) t = f_X12_reads_j65 (I d) (I 1) 0 0 1 (f_X12_reads_l11 KK f) t := fun f => by
        rw [m_gate (B := B) (P := P) (s := s), k2, k3, sg, k4, ltb_t, ltb_t, bnd_t, if_pos (Eq.refl _), if_pos (Eq.refl _), if_neg (by decide)]
      by_cases z : d ≤ 4
      · rw [if_pos (gt1.mpr z)]
        have hb := T.sblt k4
        obtain ⟨t1, b1, b2, b3, b4, b5, b6⟩ := put1 T g (by omega) 28
        have T1 : TK L B P s (sI (sI t1 123 (d + 1) 2) 124 (d + 1) 0) := (b3.mI ⟨Or.inl (by decide), by decide⟩).mI ⟨Or.inl (by decide), by decide⟩
        obtain ⟨B1, P1, s2, t2, c1, c2, c3, c4, c5, c6, c7, c8, c9⟩ := nx1 hp T1
        have hb1 := c3.le
        have e123 : ∀ j, t2.1 123 j = if j = d + 1 then 2 else t.1 123 j := fun j => by
          rw [c7, sI_n _ _ _ (show 123 ≠ 124 from by decide), sI_s, b4]
        have e124 : ∀ j, t2.1 124 j = if j = d + 1 then 0 else t.1 124 j := fun j => by
          rw [c8, sI_s, sI_n _ _ _ (show 124 ≠ 123 from by decide), b5]
        have e122 : ∀ j, j < 1000 → t2.1 122 j = t.1 122 j := fun j hj => by
          rw [c9, sI_n _ _ _ (show 122 ≠ 124 from by decide), sI_n _ _ _ (show 122 ≠ 123 from by decide)]; exact b6 j hj
        have rc : RCs (R ++ [28]) t2 := c6 _ ((b2.cg (by rw [sI_n _ _ _ (show 101 ≠ 124 from by decide), sI_n _ _ _ (show 101 ≠ 123 from by decide)]) (by rw [sI_n _ _ _ (show 122 ≠ 124 from by decide), sI_n _ _ _ (show 122 ≠ 123 from by decide)])))
        have G1 : GoOn L B B1 d 1 (d + 1) 1 t t2 := fun f hf => by
          obtain ⟨f', rfl⟩ := fuelS hf
          refine ⟨f', by omega, ?_⟩
          rw [M]
          unfold f_X12_reads_j65 f_X12_reads_j86 f_X12_reads_j99 f_X12_reads_j120
          have i7 : inb (I (d + 1)) 7 = true := inb_t (by omega) (by omega)
          rw [if_neg (fun q => by have := gt2.mp q; omega), if_pos (Eq.refl _), if_neg (by decide), if_pos (Eq.refl _), b1, bnd_t, I_p1, ltb_t, if_pos (Eq.refl _), i7, gd_t, I_nat (show d + 1 < 2147483648 from by omega), ltb_t, gd_t, nar0, ltb_t, c2, bnd_t]
        obtain ⟨-, A, D⟩ := ih z
        have hpop : popd (t2.1 123) (d + 1) = d + 1 := by
          show (if t2.1 123 (d + 1) = 1 then popd (t2.1 123) d else d + 1) = _
          rw [if_neg (by rw [e123, if_pos (Eq.refl _)]; decide)]
        obtain ⟨s3, d1, d2⟩ := A B1 P1 s2 t2 C (R ++ [28]) k c3 (c5 _ h) rc (by omega) (by rw [List.length_append]; show R.length + 1 ≤ B1; omega) (Or.inl (by rw [e124, if_pos (Eq.refl _)])) (fun _ => by rw [e124, if_pos (Eq.refl _)]) (fun _ => hpop)
        rw [c1, bnd_t, I_p1]
        have d1 : f_X3_readWhole (f_X3_readPart n) (p + 2) (I (d + 1)) s2 = some s3 := d1
        rw [d1, bnd_t]
        rcases d2 with ⟨B', P', t', C', R', E, o1, o2, o3, o4, ⟨o5, o6⟩, o7, ⟨o8, o9, o10, o11⟩, ⟨o12, o13, o14, o15⟩, o16⟩ | ⟨t', o1, o2, o3, o4⟩
        · rw [hpop] at o16
          have G2 := G1.trans o16
          have hd4 := o7.d4
          have hb2 := o1.le
          have H : ∀ f, f_X12_reads_l11 KK (f + 1) (I (d + 1)) (I 0) t' = if f_X8_isSign 41 s3 = 0 then KK (I (d + 1)) t' else bnd (f_X12_puts 29 t') fun s32 => f_X12_reads_l379 0 (fun v38 s39 => bnd (f_X12_nextToken s39) fun s41 => f_X12_reads_l11 KK f v38 0 s41) FU (I d) s32 := fun f => by
            rw [I_e0, h_304 o1 (o12 (by omega)) (o13 (by omega)).1 (o13 (by omega)).2 (o14 (by omega)) (by omega), h_close o1 (o15 (by omega))]
            by_cases y : f_X8_isSign 41 s3 = 0
            · rw [if_pos y, if_pos y]
            · rw [if_neg y, if_neg y, if_neg (by rw [I0, I_le (by omega) (by omega)]; omega), show (-1 : Int32) = -(I 1) from by decide, ← Int32.sub_eq_add_neg, I_sub (by omega)]
              rfl
          unfold f_X8_takeSign
          by_cases y : f_X8_isSign 41 s3 = 0
          · obtain ⟨s4, t4, q1, q2, q3, q4, q5⟩ := fail1 hp o1 o3 (by omega) (v := 1) (by decide)
            refine ⟨s4, by rw [if_pos y, q1, bnd_t, bnd_t], Or.inr ⟨t4, q3, q4, fun j hj => by rw [q5 j hj, o11 j hj, e122 j hj], G2.ends (fun f hf => ?_)⟩⟩
            obtain ⟨f', rfl⟩ := fuelS hf
            rw [H, if_pos y, KK_e]
            unfold f_X12_reads_j399
            rw [if_neg (by rw [I0, I_inj (by omega) (by omega)]; omega), q2, bnd2_t, show isb 0 = true from by decide, gd_t]
          · have y1 : f_X8_isSign 41 s3 = 1 := (o1.sign 41).2.2.resolve_left y
            have hb3 := o1.sblt y1
            obtain ⟨t5, w1, w2, w3, w4, w5, w6⟩ := put1 o1 o4 (by omega) 29
            obtain ⟨B6, P6, s6, t6, x1, x2, x3, x4, x5, x6, x7, x8, x9⟩ := nx1 hp w3
            have hb6 := x3.le
            refine ⟨s6, by rw [if_neg y, x1, bnd_t, bnd_t], Or.inl ⟨B6, P6, t6, C', 28 :: (R' ++ [29]), E, x3, by omega, x5 _ o3, ?_, ⟨by omega, ?_⟩, PR.par o7, ⟨fun j hj => ?_, fun j hj hj2 => ?_, ?_, fun j hj => ?_⟩, ⟨fun q => absurd q (by omega), fun q => absurd q (by omega), fun q => absurd q (by omega), fun q => absurd q (by omega)⟩, G2.trans (fun f hf => ?_)⟩⟩
            · have := x6 _ w2
              rw [List.append_assoc, List.append_assoc] at this
              exact this
            · have e : (R ++ 28 :: (R' ++ [29])).length = ((R ++ [28]) ++ R').length + 1 := by simp; omega
              rw [e]; omega
            · rw [x7, w4, o8 j (by omega), e123, if_neg (by omega)]
            · rw [x8, w5, o9 j (by omega) (Or.inl (by omega)), e124, if_neg (by omega)]
            · rw [x8, w5, o9 d (by omega) (Or.inl (by omega)), e124, if_neg (by omega)]; exact h4
            · rw [x9, w6 j hj, o11 j hj, e122 j hj]
            · obtain ⟨f', rfl⟩ := fuelS hf
              refine ⟨f', by omega, ?_⟩
              have hpd : popd (t5.1 123) d = popd (t.1 123) d := popd_cg (fun j hj => by rw [w4, o8 j (by omega), e123, if_neg (by omega)])
              rw [H, if_neg y, w1, bnd_t, m_pop2 0 _ d (by omega) FU (FU_lt (by omega)), hpd, x2, bnd_t, ← I0]
        · refine ⟨s3, by rw [o2.1.takeSign, bnd_t], Or.inr ⟨t', o1, o2, fun j hj => by rw [o3 j hj, e122 j hj], G1.ends o4⟩⟩
      · rw [if_neg (fun q => z (gt1.mp q))]
        obtain ⟨s', a1, a2⟩ := bad1 hp T h (by omega) (v := 5) (by decide) (fun f => by
          rw [M]
          unfold f_X12_reads_j65
          rw [if_pos (gt2.mpr (by omega))])
        exact ⟨s', a1, Or.inr a2⟩
    · -- nothing of these
      rw [c_none _ _ _ wb k1 k2 (by rw [T.kind]; exact k6) k5]
      obtain ⟨s', a1, a2⟩ := bad1 hp T h (by omega) (v := 1) (by decide) (w := 1) (d := d) (fun f => by
        rw [m_gate (B := B) (P := P) (s := s), k3, k4, sg, k5, ltb_t, ltb_t, bnd_t, if_pos (Eq.refl _), if_pos (Eq.refl _), if_pos (Eq.refl _), if_neg k6])
      exact ⟨s', a1, Or.inr a2⟩
  · intro s D
    refine ⟨s, ?_, D, rfl⟩
    show f_X3_readPartb (f_X3_readPart n) (p + 2) (I d) s = some s
    rw [c_none _ _ _ (by rw [D.1.2.2]; decide) (by rw [D.1.2.2]; decide) (fun i _ => by rw [D.1.2.2]; omega) (by rw [D.1.2.1]; decide) (D.1.sign _), D.1.fail, bnd_t]
end PART
