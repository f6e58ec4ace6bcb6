/-! order: products, sums, tests, wholes -/
section LVLS
variable {p L : Nat}
theorem PS1 (hp : okX4 p = true) {n d : Nat} (hd : d ≤ 5) (A : PS p L n 0 d) : PS p L n 1 d := by
  refine r_lvl hp (l := 1) (l0 := 0) (by omega) (by omega) (by omega) A (F := f_X3_readProduct_l8 (f_X3_readPart n) (p + 2) (I d)) (fun s => rfl) (fun f v3 s N => ?_) (fun B P s t T => ?_) (fun s t _ N => ⟨fun _ => N.2.1 rfl, fun q => absurd q (by omega), fun q => absurd q (by omega), fun q => absurd q (by omega)⟩) (fun _ _ _ h => h.up0)
  · simp only [f_X3_readProduct_l8, f_X3_readProduct_l8b, N.2.1 rfl]
    by_cases z : (1000 : Int32) ≤ v3
    · rw [if_pos z]
    · rw [if_neg z, if_pos (by decide)]
  · rcases (T.sign 42).2.2 with y | y
    · exact Or.inl ⟨(T.word (j := 0) (by omega)).2.2, fun _ => y, fun q => absurd q (by omega), fun q => absurd q (by omega)⟩
    · refine Or.inr ⟨-12, 22, id, Or.inl (fun _ => rfl), fun q => absurd q (by omega), fun _ _ => rfl, (T.sblt y).1, fun f v3 hv => ?_, fun f => ?_, fun _ _ _ _ _ _ a b => ⟨_, a.mul b⟩⟩
      · simp only [f_X3_readProduct_l8, f_X3_readProduct_l8b, y, cl]
        rw [if_neg (by rw [show (1000 : Int32) = I 1000 from litI 1000, I_le (by omega) (by omega)]; omega), if_neg (by decide)]
        simp only [ltb_t, I_p1]
      · rw [I_e0, h_mul T y (Or.inr (Or.inr ⟨rfl, rfl⟩))]
        rfl
theorem PS2 (hp : okX4 p = true) {n d : Nat} (hd : d ≤ 5) (A : PS p L n 1 d) : PS p L n 2 d := by
  refine r_lvl hp (l := 2) (l0 := 1) (by omega) (by omega) (by omega) A (F := f_X3_readSum_l8 (f_X3_readPart n) (p + 2) (I d)) (fun s => rfl) (fun f v3 s N => ?_) (fun B P s t T => ?_) (fun s t M N => ⟨fun _ => M.1 (by omega), fun _ => N.2.2.1 rfl, fun q => absurd q (by omega), fun q => absurd q (by omega)⟩) (fun _ _ _ h => h.up1)
  · simp only [f_X3_readSum_l8, f_X3_readSum_l8b, (N.2.2.1 rfl).1, (N.2.2.1 rfl).2]
    by_cases z : (1000 : Int32) ≤ v3
    · rw [if_pos z]
    · rw [if_neg z, if_pos (by decide), if_pos (by decide)]
  · have go : ∀ (f v3 : Nat), v3 < 1000 → ¬ (1000 : Int32) ≤ I v3 := fun f v3 hv => by rw [show (1000 : Int32) = I 1000 from litI 1000, I_le (by omega) (by omega)]; omega
    rcases (T.sign 43).2.2 with y | y
    · rcases (T.sign 45).2.2 with x | x
      · exact Or.inl ⟨(T.word (j := 0) (by omega)).2.2, fun q => absurd q (by omega), fun _ => ⟨y, x⟩, fun q => absurd q (by omega)⟩
      · refine Or.inr ⟨-11, 21, id, Or.inl (fun _ => rfl), fun q => absurd q (by omega), fun _ _ => rfl, (T.sblt x).1, fun f v3 hv => ?_, fun f => ?_, fun _ _ _ _ _ _ a b => ⟨_, a.sub b⟩⟩
        · simp only [f_X3_readSum_l8, f_X3_readSum_l8b, f_X3_readSum_j39, f_X3_readSum_j58, y, x, cl]
          rw [if_neg (go f v3 hv), if_pos (by decide), if_neg (by decide), if_pos (by decide)]
          simp only [ltb_t, I_p1]
        · rw [I_e0, h_mul T x (Or.inr (Or.inl ⟨rfl, rfl⟩))]
          rfl
    · refine Or.inr ⟨-10, 20, id, Or.inl (fun _ => rfl), fun q => absurd q (by omega), fun _ _ => rfl, (T.sblt y).1, fun f v3 hv => ?_, fun f => ?_, fun _ _ _ _ _ _ a b => ⟨_, a.add b⟩⟩
      · simp only [f_X3_readSum_l8, f_X3_readSum_l8b, f_X3_readSum_j39, f_X3_readSum_j58, y, cl]
        rw [if_neg (go f v3 hv), if_neg (by decide), if_neg (by decide)]
        simp only [ltb_t, I_p1]
      · rw [I_e0, h_mul T y (Or.inl ⟨rfl, rfl⟩)]
        rfl
theorem PS4 (hp : okX4 p = true) {n d : Nat} (hd : d ≤ 5) (A : PS p L n 3 d) : PS p L n 4 d := by
  refine r_lvl hp (l := 4) (l0 := 3) (by omega) (by omega) (by omega) A (F := f_X3_readWhole_l8 (f_X3_readPart n) (p + 2) (I d)) (fun s => rfl) (fun f v3 s N => ?_) (fun B P s t T => ?_) (fun s t M N => ⟨fun _ => M.1 (by omega), fun _ => M.2.1 (by omega), fun _ => M.2.2.1 (by omega), fun _ => N.2.2.2 rfl⟩) (fun _ _ _ h => h.up3)
  · obtain ⟨n1, n2⟩ := N.2.2.2 rfl
    simp only [f_X3_readWhole_l8, f_X3_readWhole_l8b, N.1, gd_t, if_neg n1, if_neg n2]
    by_cases z : (1000 : Int32) ≤ v3
    · rw [if_pos z]
    · rw [if_neg z]
  · have go : ∀ (f v3 : Nat), v3 < 1000 → ¬ (1000 : Int32) ≤ I v3 := fun f v3 hv => by rw [show (1000 : Int32) = I 1000 from litI 1000, I_le (by omega) (by omega)]; omega
    have wb := (T.word (j := 0) (by omega)).2.2
    by_cases y : s.2.2.2.2.2.2 = 1031
    · refine Or.inr ⟨-6, 26, fun a => sI a 124 d 0, Or.inr ⟨0, Or.inl rfl, fun _ => rfl⟩, fun _ a => sI_k _ _ _ _, fun q => absurd q (by omega), (T.wblt (by omega)).1, fun f v3 hv => ?_, fun f => ?_, fun _ _ _ _ _ _ a b => ⟨_, a.and b⟩⟩
      · simp only [f_X3_readWhole_l8, f_X3_readWhole_l8b, f_X3_readWhole_j41, f_X3_readWhole_j61, wb, gd_t, if_pos y, cl]
        rw [if_neg (go f v3 hv)]
        simp only [ltb_t, I_p1]
      · rw [I_e0, h_word T (j := 31) y (Or.inl ⟨rfl, rfl⟩) hd]
        rfl
    · by_cases x : s.2.2.2.2.2.2 = 1032
      · refine Or.inr ⟨-7, 27, fun a => sI a 124 d 0, Or.inr ⟨0, Or.inl rfl, fun _ => rfl⟩, fun _ a => sI_k _ _ _ _, fun q => absurd q (by omega), (T.wblt (by omega)).1, fun f v3 hv => ?_, fun f => ?_, fun _ _ _ _ _ _ a b => ⟨_, a.or b⟩⟩
        · simp only [f_X3_readWhole_l8, f_X3_readWhole_l8b, f_X3_readWhole_j41, f_X3_readWhole_j61, wb, gd_t, if_neg y, if_pos x, cl]
          rw [if_neg (go f v3 hv)]
          simp only [ltb_t, I_p1]
        · rw [I_e0, h_word T (j := 32) x (Or.inr ⟨rfl, rfl⟩) hd]
          rfl
      · exact Or.inl ⟨wb, fun q => absurd q (by omega), fun q => absurd q (by omega), fun _ => ⟨y, x⟩⟩
theorem PS3 (hp : okX4 p = true) {n d : Nat} (hd : d ≤ 5) (A : PS p L n 2 d) : PS p L n 3 d := by
  have hcl : ∀ s, cl n (p + 2) (I d) 3 s = bnd (cl n (p + 2) (I d) 2 s) fun s2 => (if (f_X8_isSign 60 s2) = 0 then (if (f_X8_isSign 61 s2) = 0 then some s2 else f_X3_readTest_j30 (f_X3_readPart n) (p + 2) (I d) s2) else f_X3_readTest_j30 (f_X3_readPart n) (p + 2) (I d) s2) := fun s => rfl
  constructor
  · intro B P s t C R k T h g hC hR h4 h5 hpop
    have hpop := hpop (by omega)
    have h0 := h5 (by omega)
    obtain ⟨s2, d1, d2⟩ := A.1 B P s t C R k T h g hC hR h4 (fun q => absurd q (by omega)) (fun _ => hpop)
    rw [hcl, d1, bnd_t]
    rcases d2 with ⟨B', P', t', C', R', E, o1, o2, o3, o4, ⟨o5, o6⟩, o7, ⟨o8, o9, o10, o11⟩, o12, o13⟩ | ⟨t', o1, o2, o3, o4⟩
    · rw [hpop] at o13
      have hp2 : popd (t'.1 123) d = d := (popd_cg o8).trans hpop
      have e0 : t'.1 124 d = 0 := by rw [o9 d (Nat.le_refl _) (Or.inr (by omega))]; exact h0
      have one : ∀ (a co ro : Int32), f_X8_isSign a s2 = 1 → ((a = 60 ∧ ro = 24 ∧ co = -8) ∨ (a = 61 ∧ ro = 25 ∧ co = -9)) → ∃ s', (bnd (f_X8_step s2) fun s1 => bnd (cl n (p + 2) (I d) 2 s1) fun s2 => bnd (f_X2_add (p + 2) co s2) fun s3 => some s3) = some s' ∧ (Okk p L 3 d k B 1 C R t s' ∨ Bad p L d B 1 t s') := by
        intro a co ro y hv
        obtain ⟨s3, s4, s5, c1, c2, c3, c4⟩ := r_op hp (by omega) A o1 (o1.sblt y).1 o3 o4 o5 o6 o10 hp2 (co := co) (ro := ro) (W := fun a => sI a 124 d 1) (Or.inr ⟨1, Or.inr rfl, fun _ => rfl⟩) (fun q => absurd q (by omega)) (fun f => by
          rw [I_e0]
          exact h_test o1 y (hv.imp (fun q => ⟨q.1, q.2.1⟩) (fun q => ⟨q.1, q.2.1⟩)) hd e0 KK f)
        refine ⟨s5, by rw [c1, bnd_t, c2, bnd_t, c3, bnd_t], ?_⟩
        rcases c4 with ⟨B2, P2, t2, C2, R2, E2, z1, z2, z3, z4, ⟨z5, z6⟩, z7, ⟨z8, z9, z10, z11, z12⟩, z13, z14⟩ | ⟨t2, z1, z2, z3, z4⟩
        · rw [List.append_assoc] at z3 z5 z4 z6
          have e1 : t2.1 124 d = 1 := by rw [z10 (by omega), sI_k]
          have pr : ∃ E3, PR 3 d (C' ++ (C2 ++ [co])) (R' ++ ro :: R2) E3 := by
            rcases hv with ⟨-, rfl, rfl⟩ | ⟨-, rfl, rfl⟩
            · exact ⟨_, o7.lt z7⟩
            · exact ⟨_, o7.eq z7⟩
          obtain ⟨E3, hE3⟩ := pr
          refine Or.inl ⟨B2, P2, t2, _, _, E3, z1, by omega, z3, z4, ⟨z5, z6⟩, hE3, ⟨fun j hj => by rw [z8 j hj, o8 j hj], fun j hj hj2 => ?_, z11, fun j hj => by rw [z12 j hj, o11 j hj]⟩, ⟨fun _ => z13.1 (by omega), fun _ => z13.2.1 (by omega), fun _ q => absurd q (by rw [e1]; decide), fun q => absurd q (by omega)⟩, ?_⟩
          · have hj3 : j < d := hj2.resolve_right (by omega)
            rw [z9 j hj3, o9 j hj (Or.inl hj3)]
          · rw [hpop]; exact o13.trans z14
        · exact Or.inr ⟨t2, z1, z2, fun j hj => by rw [z3 j hj, o11 j hj], o13.ends z4⟩
      rcases (o1.sign 60).2.2 with y | y
      · rcases (o1.sign 61).2.2 with x | x
        · rw [if_pos y, if_pos x]
          refine ⟨s2, rfl, Or.inl ⟨B', P', t', C', R', E, o1, o2, o3, o4, ⟨o5, o6⟩, o7.up2, ⟨o8, fun j hj hj2 => o9 j hj (Or.inr (by omega)), o10, o11⟩, ⟨fun _ => o12.1 (by omega), fun _ => o12.2.1 (by omega), fun _ _ => ⟨y, x⟩, fun q => absurd q (by omega)⟩, by rw [hpop]; exact o13⟩⟩
        · obtain ⟨s', r1, r2⟩ := one 61 (-9) 25 x (Or.inr ⟨rfl, rfl, rfl⟩)
          refine ⟨s', ?_, r2⟩
          rw [if_pos y, if_neg (by rw [x]; decide)]
          unfold f_X3_readTest_j30 f_X3_readTest_j49
          rw [if_pos y]
          exact r1
      · obtain ⟨s', r1, r2⟩ := one 60 (-8) 24 y (Or.inl ⟨rfl, rfl, rfl⟩)
        refine ⟨s', ?_, r2⟩
        rw [if_neg (by rw [y]; decide)]
        unfold f_X3_readTest_j30 f_X3_readTest_j49
        rw [if_neg (by rw [y]; decide)]
        exact r1
    · exact ⟨s2, by rw [o2.1.sign, if_pos (Eq.refl _), o2.1.sign, if_pos (Eq.refl _)], Or.inr ⟨t', o1, o2, o3, o4⟩⟩
  · intro s D
    obtain ⟨s2, d1, d2, d3⟩ := A.2 s D
    refine ⟨s2, ?_, d2, d3⟩
    rw [hcl, d1, bnd_t, d2.1.sign, if_pos (Eq.refl _), d2.1.sign, if_pos (Eq.refl _)]
theorem PSall (hp : okX4 p = true) : ∀ n d, d ≤ 5 → 5 < n + d → PS p L n 0 d ∧ PS p L n 1 d ∧ PS p L n 2 d ∧ PS p L n 3 d ∧ PS p L n 4 d := by
  intro n
  induction n with
  | zero => intro d h1 h2; omega
  | succ n ih =>
    intro d h1 h2
    have a0 : PS p L (n + 1) 0 d := PS0 hp h1 (fun q => by
      obtain ⟨b0, -, -, -, b4⟩ := ih (d + 1) (by omega) (by omega)
      exact ⟨b0, b4⟩)
    have a1 := PS1 hp h1 a0
    have a2 := PS2 hp h1 a1
    have a3 := PS3 hp h1 a2
    exact ⟨a0, a1, a2, a3, PS4 hp h1 a3⟩
end LVLS
