section MVEND
variable {g : Nat → Int32} {d : Nat}
theorem sumq_e (t : HS) (d : Nat) : Fz d t (sumq t d) ∧ (sumq t d).1 129 d = SVq t d ∧ (sumq t d).1 132 d = 0 := by
  unfold sumq
  exact ⟨(Fz.sI (by decide) (Nat.le_refl _)).trans (Fz.sI (by decide) (Nat.le_refl _)), by rw [sI_n _ _ _ (by decide), sI_k], sI_k _ _ _ _⟩
theorem sumq_o (t : HS) (d : Nat) {o : Nat} (h : o ≠ 129 ∧ o ≠ 132) : (sumq t d).1 o = t.1 o := by
  unfold sumq
  rw [sI_n _ _ _ h.2, sI_n _ _ _ h.1]
theorem SV_20 {t : HS} (h : t.1 130 d = 20) : SVq t d = t.1 129 d + t.1 131 d := by unfold SVq; rw [if_neg (by rw [h]; decide)]
theorem SV_21 {t : HS} (h : t.1 130 d = 21) : SVq t d = t.1 129 d - t.1 131 d := by unfold SVq; rw [if_pos h]
theorem mv_up1 {C R : List Int32} {E : OF} (x : MVq g 1 d C R E) : MVq g 2 d C R E := by
  refine mv_up (l := 1) (by omega) (fun t t' h2 h3 h4 A v => ?_) x
  have v : t'.1 131 d = E g := v
  show SVq t' d = E g
  obtain ⟨a1, a2⟩ := A.2.2.2.1 (by omega)
  rw [SV_20 (by rw [a2]; exact (h2 (by omega)).2), a1, (h2 (by omega)).1, Int32.zero_add, v]
theorem mv_up2 {C R : List Int32} {E : OF} (x : MVq g 2 d C R E) : MVq g 3 d C R E := by
  refine mv_up (l := 2) (by omega) (fun t t' h2 h3 h4 A v => ?_) x
  have v : SVq t' d = E g := v
  show TVq t' d = E g
  obtain ⟨a1, a2⟩ := A.2.2.1 (by omega)
  unfold TVq
  rw [a2, h3 (by omega), if_neg (by decide), if_neg (by decide), v]
theorem mv_up3 {C R : List Int32} {E : OF} (x : MVq g 3 d C R E) : MVq g 4 d C R E := by
  refine mv_up (l := 3) (by omega) (fun t t' h2 h3 h4 A v => ?_) x
  have v : TVq t' d = E g := v
  show WVq t' d = E g
  obtain ⟨a1, a2⟩ := A.2.1 (by omega)
  unfold WVq
  rw [a2, h4 (by omega), if_neg (by decide), if_neg (by decide), v]
theorem mv_sum {C R C' R' C2 : List Int32} {E E' E2 : OF} {v : Int32} (hv : (v = 20 ∧ E2 g = E g + E' g) ∨ (v = 21 ∧ E2 g = E g - E' g)) (x : MVq g 2 d C R E) (y : MVq g 1 d C' R' E') : MVq g 2 d C2 (R ++ v :: R') E2 := by
  refine mv_bin (by omega) (by omega) (fun t => sI (sumq t d) 130 d v) (fun K f i t hd => q_sum _ (by omega) (hv.imp And.left And.left)) (fun t => (sumq_e t d).1.trans (Fz.sI (by decide) (Nat.le_refl _))) (fun t => ?_) (fun t => ⟨?_, fun q => absurd q (by omega), fun q => absurd q (by omega), fun q => absurd q (by omega)⟩) (fun t t' h1 A h2 => ?_) x y
  · have k : ∀ o, o ≠ 129 ∧ o ≠ 132 ∧ o ≠ 130 → (sI (sumq t d) 130 d v).1 o d = t.1 o d := fun o ho => by rw [sI_n _ _ _ ho.2.2, sumq_o _ _ ⟨ho.1, ho.2.1⟩]
    exact ⟨k _ (by decide), fun _ => ⟨k _ (by decide), k _ (by decide)⟩, fun _ => ⟨k _ (by decide), k _ (by decide)⟩, fun q => absurd q (by omega), fun q => absurd q (by omega)⟩
  · rw [sI_n _ _ _ (show 132 ≠ 130 from by decide)]; exact (sumq_e t d).2.2
  · have h1 : SVq t d = E g := h1
    have h2 : t'.1 131 d = E' g := h2
    show SVq t' d = E2 g
    obtain ⟨a1, a2⟩ := A.2.2.2.1 (by omega)
    rw [sI_n _ _ _ (show 129 ≠ 130 from by decide), (sumq_e t d).2.1] at a1
    rw [sI_k] at a2
    rcases hv with ⟨rfl, hE⟩ | ⟨rfl, hE⟩
    · rw [SV_20 a2, a1, h1, h2, hE]
    · rw [SV_21 a2, a1, h1, h2, hE]
theorem mv_test {C R C' R' C2 : List Int32} {E E' E2 : OF} {v : Int32} (hv : (v = 24 ∧ E2 g = if E' g ≤ E g then 0 else 1) ∨ (v = 25 ∧ E2 g = if E g = E' g then 1 else 0)) (x : MVq g 2 d C R E) (y : MVq g 2 d C' R' E') : MVq g 3 d C2 (R ++ v :: R') E2 := by
  refine mv_bin (by omega) (by omega) (fun t => sI (sI (sI (sI (sumq t d) 127 d (SVq t d)) 128 d v) 129 d 0) 130 d 20) (fun K f i t hd => q_test _ (by omega) (hv.imp And.left And.left)) (fun t => (sumq_e t d).1.trans ((Fz.sI (by decide) (Nat.le_refl _)).trans ((Fz.sI (by decide) (Nat.le_refl _)).trans ((Fz.sI (by decide) (Nat.le_refl _)).trans (Fz.sI (by decide) (Nat.le_refl _)))))) (fun t => ?_) (fun t => ⟨?_, fun _ => ⟨?_, ?_⟩, fun q => absurd q (by omega), fun q => absurd q (by omega)⟩) (fun t t' h1 A h2 => ?_) x y
  · have k : ∀ o, o ≠ 129 ∧ o ≠ 132 ∧ o ≠ 127 ∧ o ≠ 128 ∧ o ≠ 130 → (sI (sI (sI (sI (sumq t d) 127 d (SVq t d)) 128 d v) 129 d 0) 130 d 20).1 o d = t.1 o d := fun o ho => by rw [sI_n _ _ _ ho.2.2.2.2, sI_n _ _ _ ho.1, sI_n _ _ _ ho.2.2.2.1, sI_n _ _ _ ho.2.2.1, sumq_o _ _ ⟨ho.1, ho.2.1⟩]
    exact ⟨k _ (by decide), fun _ => ⟨k _ (by decide), k _ (by decide)⟩, fun q => absurd q (by omega), fun q => absurd q (by omega), fun q => absurd q (by omega)⟩
  · rw [sI_n _ _ _ (show 132 ≠ 130 from by decide), sI_n _ _ _ (show 132 ≠ 129 from by decide), sI_n _ _ _ (show 132 ≠ 128 from by decide), sI_n _ _ _ (show 132 ≠ 127 from by decide)]; exact (sumq_e t d).2.2
  · rw [sI_n _ _ _ (show 129 ≠ 130 from by decide), sI_k]
  · rw [sI_k]
  · have h1 : SVq t d = E g := h1
    have h2 : SVq t' d = E' g := h2
    show TVq t' d = E2 g
    obtain ⟨a1, a2⟩ := A.2.2.1 (by omega)
    rw [sI_n _ _ _ (show 127 ≠ 130 from by decide), sI_n _ _ _ (show 127 ≠ 129 from by decide), sI_n _ _ _ (show 127 ≠ 128 from by decide), sI_k] at a1
    rw [sI_n _ _ _ (show 128 ≠ 130 from by decide), sI_n _ _ _ (show 128 ≠ 129 from by decide), sI_k] at a2
    unfold TVq
    rcases hv with ⟨rfl, hE⟩ | ⟨rfl, hE⟩
    · rw [a2, if_pos (Eq.refl _), a1, h1, h2, hE]
    · rw [a2, if_neg (by decide), if_pos (Eq.refl _), a1, h1, h2, hE]
theorem mv_and {C R C' R' C2 : List Int32} {E E' E2 : OF} {v : Int32} (hv : (v = 26 ∧ E2 g = if E g = 0 then 0 else if E' g = 0 then 0 else 1) ∨ (v = 27 ∧ E2 g = if E g = 0 then (if E' g = 0 then 0 else 1) else 1)) (x : MVq g 4 d C R E) (y : MVq g 3 d C' R' E') : MVq g 4 d C2 (R ++ v :: R') E2 := by
  refine mv_bin (by omega) (by omega) (fun t => sI (testq t d) 126 d v) (fun K f i t hd => q_and _ (by omega) (hv.imp And.left And.left)) (fun t => (testq_e t d).1.trans (Fz.sI (by decide) (Nat.le_refl _))) (fun t => ?_) (fun t => ⟨?_, fun _ => ⟨?_, ?_⟩, fun _ => ?_, fun q => absurd q (by omega)⟩) (fun t t' h1 A h2 => ?_) x y
  · exact ⟨by rw [sI_n _ _ _ (show 133 ≠ 126 from by decide)]; exact (testq_e t d).2.1, fun q => absurd q (by omega), fun q => absurd q (by omega), fun q => absurd q (by omega), fun q => absurd q (by omega)⟩
  · rw [sI_n _ _ _ (show 132 ≠ 126 from by decide)]; exact (testq_e t d).2.2.2.2.2.2
  · rw [sI_n _ _ _ (show 129 ≠ 126 from by decide)]; exact (testq_e t d).2.2.2.2.1
  · rw [sI_n _ _ _ (show 130 ≠ 126 from by decide)]; exact (testq_e t d).2.2.2.2.2.1
  · rw [sI_n _ _ _ (show 128 ≠ 126 from by decide)]; exact (testq_e t d).2.2.2.1
  · have h1 : WVq t d = E g := h1
    have h2 : TVq t' d = E' g := h2
    show WVq t' d = E2 g
    obtain ⟨a1, a2⟩ := A.2.1 (by omega)
    rw [sI_n _ _ _ (show 125 ≠ 126 from by decide), (testq_e t d).2.2.1] at a1
    rw [sI_k] at a2
    unfold WVq
    rcases hv with ⟨rfl, hE⟩ | ⟨rfl, hE⟩
    · rw [a2, if_pos (Eq.refl _), a1, h1, h2, hE]
    · rw [a2, if_neg (by decide), if_pos (Eq.refl _), a1, h1, h2, hE]
theorem mv_all {l dd : Nat} {C R : List Int32} {E : OF} (H : PR l dd C R E) : MVq g l dd C R E :=
  H (MVq g) ⟨fun _ _ h1 h2 => mv_num h1 h2, fun _ _ h1 h2 => mv_fact h1 h2, fun _ _ _ _ x => mv_nt x, fun _ _ _ _ x => mv_par x, fun _ _ _ _ x => mv_up0 x, fun _ _ _ _ x => mv_up1 x, fun _ _ _ _ x => mv_up2 x, fun _ _ _ _ x => mv_up3 x, fun _ _ _ _ _ _ _ x y => mv_mul x y, fun _ _ _ _ _ _ _ x y => mv_sum (Or.inl ⟨rfl, rfl⟩) x y, fun _ _ _ _ _ _ _ x y => mv_sum (Or.inr ⟨rfl, rfl⟩) x y, fun _ _ _ _ _ _ _ x y => mv_test (Or.inl ⟨rfl, rfl⟩) x y, fun _ _ _ _ _ _ _ x y => mv_test (Or.inr ⟨rfl, rfl⟩) x y, fun _ _ _ _ _ _ _ x y => mv_and (Or.inl ⟨rfl, rfl⟩) x y, fun _ _ _ _ _ _ _ x y => mv_and (Or.inr ⟨rfl, rfl⟩) x y⟩
theorem OMv_of {C R : List Int32} {E : OF} (H : PR 4 0 C R E) {t : HS} (h1 : t.1 120 0 = 0) (h2 : t.1 121 0 = I R.length) (h3 : ∀ i, i < R.length → t.1 122 i = R.getD i 0) (hl : R.length ≤ 1000) : OMv (fun a b c d => E (g4 a b c d)) t := by
  refine ⟨fun _ t' e1 e2 e3 => ?_, fun q => ?_⟩
  · obtain ⟨o1, o2, o3, o4, o5, o6, o7⟩ := openq_e t' 0 (t'.1 133 0) 0 (Nat.le_refl _)
    have op : f_X12_opens 0 t' = some (openq t' 0 (t'.1 133 0)) := by
      have := opens_e (t := t') (d := 0) (by omega) (t'.1 133 0)
      rw [sI_same rfl, I_e0] at this
      exact this
    obtain ⟨k1, k2, k3⟩ := o1.kp (g := g4 (t'.1 134 1) (t'.1 134 2) (t'.1 134 3) (t'.1 134 4)) (N := R.length) (R := R) (i := 0) (by rw [e2]; exact h2) (fun j hj => by rw [Nat.zero_add, e3 j (by omega)]; exact h3 j hj) (fun k hk => by
      rcases (show k = 0 ∨ k = 1 ∨ k = 2 ∨ k = 3 from by omega) with rfl | rfl | rfl | rfl <;> rfl)
    obtain ⟨t3, a1, a2, a3, a4⟩ := ((mv_all H).2 (openq t' 0 (t'.1 133 0)) R.length 0 k1 hl (by omega) k2 k3).2 (by omega) (Or.inl rfl) o7 (fun _ => ⟨o5, o6⟩) (fun _ => o4) (fun _ => o3)
    have a2 : WVq t3 0 = E (g4 (t'.1 134 1) (t'.1 134 2) (t'.1 134 3) (t'.1 134 4)) := a2
    refine ⟨testq t3 0, ?_⟩
    unfold f_X12_worked
    have x4 : (openq t' 0 (t'.1 133 0)).1 120 0 = 0 := by rw [o1.1 120 (by omega), e1]; exact h1
    rw [op, bnd_t, show inb (0 : Int32) 2 = true from by decide, gd_t, show (0 : Int32).toNatClampNeg = 0 from by decide, x4, ltb_t]
    have := a1 (fun s75 => bnd (f_X12_tests 0 s75) fun s77 => some (s77.1 125 0, s77)) (4999 - R.length + 1)
    rw [show 4999 - R.length + 1 + R.length = FU from by show _ = 5000; omega, I_e0, Nat.zero_add] at this
    rw [this]
    have eN : t3.1 121 0 = I R.length := by rw [a3.1 121 (by omega)]; exact k1
    have te := tests_e (t := t3) (d := 0) (by omega)
    rw [I_e0] at te
    show f_X12_worked_l14b 0 0 (I R.length) _ _ t3 = _
    unfold f_X12_worked_l14b
    rw [show inb (0 : Int32) 2 = true from by decide, gd_t, show (0 : Int32).toNatClampNeg = 0 from by decide, eN, if_pos (Int32.le_refl _)]
    show (bnd (f_X12_tests 0 t3) fun s77 => some (s77.1 125 0, s77)) = some (E (g4 (t'.1 134 1) (t'.1 134 2) (t'.1 134 3) (t'.1 134 4)), testq t3 0)
    rw [te, bnd_t, (testq_e t3 0).2.2.1, a2]
  · exfalso
    rw [h1, h2, I0, I_inj (by omega) (by omega)] at q
    have := (mv_all (g := g4 0 0 0 0) H).1.2
    omega
end MVEND
