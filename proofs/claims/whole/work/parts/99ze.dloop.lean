section DLOOP
variable {p L h n c : Nat}
theorem p64 (hp : okX4 p = true) : ∀ k, k < 26 → p + k < 64 := by rcases okX4_c hp with rfl | rfl <;> (intro k hk; omega)
theorem CNT.d {s t s' t' : HS} (hp : okX4 p = true) (C : CNT p 0 c h n s t) (f : FSd s s') (g : FR5 t t') : CNT p 0 c h n s' t' := by
  have q := p36 hp 0 (by omega)
  have q6 := p64 hp 0 (by omega)
  have e : ∀ k, s'.1 p k = s.1 p k := fun k => (f p k (by omega) (by omega) (by omega) (by omega)).1
  have m : ∀ k, t'.1 103 k = t.1 103 k := fun k => (g 103 k (by unfold R5 Zm; omega)).1
  unfold CNT
  rw [e, e, e, m, m, m]
  exact C
theorem NMS.d {s t s' t' : HS} (hp : okX4 p = true) (hn : c ≤ 6 ∧ h ≤ 5 ∧ n ≤ 6) (N : NMS p 0 c h n s t) (f : FSd s s') (g : FR5 t t') : NMS p 0 c h n s' t' := by
  have e : ∀ k, k < 26 → ∀ j, s'.2.1 (p + k) j = s.2.1 (p + k) j := fun k hk j => by
    have q := p36 hp k hk
    have q6 := p64 hp k hk
    exact (f (p + k) j (by omega) (by omega) (by omega) (by omega)).2
  exact N.cg hp hn (fun i _ => e 5 (by omega) i) (fun i hi => e (9 + i) (by omega) 0) (fun i hi => e (14 + 2 * i) (by omega) 0) (fun i _ => (g 104 _ (by unfold R5 Zm; omega)).2) (fun i _ => (g 105 _ (by unfold R5 Zm; omega)).2) (fun i _ => (g 106 _ (by unfold R5 Zm; omega)).2)
theorem FSd.trans {a b d : HS} (f : FSd a b) (g : FSd b d) : FSd a d := fun o k h1 h2 h3 h4 => ⟨(g o k h1 h2 h3 h4).1.trans (f o k h1 h2 h3 h4).1, (g o k h1 h2 h3 h4).2.trans (f o k h1 h2 h3 h4).2⟩
theorem d_loop (hp : okX4 p = true) : ∀ e B P s t v2 m, L - B ≤ e → TK L B P s t → LNd h n m s t → CNT p 0 c h n s t → NMS p 0 c h n s t → v2 ≤ B → ∃ u, (∀ f, e < f → f_X1_read_l14 p f (I v2) s = some (u.1 36 9, sI u 36 1 0)) ∧ ((∃ t' m', u.1 36 9 = 0 ∧ (∀ K f, e < f → f_X12_days_l16 K f t = K t') ∧ LNd h n m' u t' ∧ FSd s u ∧ FR5 t t') ∨ (∃ t', BD u t' ∧ (∀ K f, e < f → f_X12_days_l16 K f t = some (t'.1 101 9, t')) ∧ FR5 t t')) := by
  have fin : ∀ u : HS, (bnd2 (f_X8_finish u) fun y s => some (y, s)) = some (u.1 36 9, sI u 36 1 0) := fun u => by
    unfold f_X8_finish
    rw [ltb_t, bnd2_t, sI_s, if_neg (by decide)]
  have dead : ∀ u : HS, Dd u → ∀ f v, f_X1_read_l14 p (f + 1) v u = some (u.1 36 9, sI u 36 1 0) := fun u D f v => by
    show f_X1_read_l14b p v _ u = _
    unfold f_X1_read_l14b
    rw [fin, D.goes, if_pos (Eq.refl _)]
    split <;> rfl
  have main : ∀ e B P s t v2 m, L - B ≤ e → TK L B P s t → LNd h n m s t → CNT p 0 c h n s t → NMS p 0 c h n s t → v2 ≤ B → (∀ B' P' s' t' v2 m, B < B' → TK L B' P' s' t' → LNd h n m s' t' → CNT p 0 c h n s' t' → NMS p 0 c h n s' t' → v2 ≤ B' → ∃ u, (∀ f, e - 1 < f → f_X1_read_l14 p f (I v2) s' = some (u.1 36 9, sI u 36 1 0)) ∧ ((∃ t'' m', u.1 36 9 = 0 ∧ (∀ K f, e - 1 < f → f_X12_days_l16 K f t' = K t'') ∧ LNd h n m' u t'' ∧ FSd s' u ∧ FR5 t' t'') ∨ (∃ t'', BD u t'' ∧ (∀ K f, e - 1 < f → f_X12_days_l16 K f t' = some (t''.1 101 9, t'')) ∧ FR5 t' t''))) → ∃ u, (∀ f, e < f → f_X1_read_l14 p f (I v2) s = some (u.1 36 9, sI u 36 1 0)) ∧ ((∃ t' m', u.1 36 9 = 0 ∧ (∀ K f, e < f → f_X12_days_l16 K f t = K t') ∧ LNd h n m' u t' ∧ FSd s u ∧ FR5 t t') ∨ (∃ t', BD u t' ∧ (∀ K f, e < f → f_X12_days_l16 K f t = some (t'.1 101 9, t')) ∧ FR5 t t')) := by
    intro e B P s t v2 m he T D C N hv ih
    have hle := T.le
    have k9 : s.1 36 9 = 0 := T.2.2.1
    have k4 := T.kind
    by_cases z : t.1 101 6 = 0
    · have go : f_X8_goesOn s = 0 := by
        unfold f_X8_goesOn
        rw [if_pos k9, if_pos (k4.trans z)]
      refine ⟨s, fun f hf => ?_, Or.inl ⟨t, m, k9, fun K f hf => ?_, D, fun _ _ _ _ _ _ => ⟨rfl, rfl⟩, FR5.refl⟩⟩
      · obtain ⟨f', rfl⟩ : ∃ f', f = f' + 1 := ⟨f - 1, by omega⟩
        show f_X1_read_l14b p (I v2) _ s = _
        unfold f_X1_read_l14b
        rw [fin, go, if_pos (Eq.refl _)]
        split <;> rfl
      · obtain ⟨f', rfl⟩ : ∃ f', f = f' + 1 := ⟨f - 1, by omega⟩
        show f_X12_days_l16b _ K t = _
        unfold f_X12_days_l16b
        rw [if_pos z]
    · have hb := T.blt z
      have go : ¬ f_X8_goesOn s = 0 := by
        unfold f_X8_goesOn
        rw [if_pos k9, if_neg (by rw [k4]; exact z)]
        decide
      have stepc : ∀ f, f_X1_read_l14 p (f + 1) (I v2) s = bnd (f_X1_readLine p s) fun s11 => f_X1_read_l14 p f (I (v2 + 1)) s11 := fun f => by
        show f_X1_read_l14b p (I v2) _ s = _
        unfold f_X1_read_l14b
        rw [if_neg (by rw [show (1000 : Int32) = I 1000 from litI 1000, I_le (by omega) (by omega)]; omega), if_neg go]
        simp only [ltb_t, I_p1]
      have stepm : ∀ K f, f_X12_days_l16 K (f + 1) t = bnd2 (f_X12_readsLine t) fun y6 s7 => (if y6 = 0 then some (s7.1 101 9, s7) else f_X12_days_l16 K f s7) := fun K f => by
        show f_X12_days_l16b _ K t = _
        unfold f_X12_days_l16b
        rw [if_neg z]
      rcases r_dline hp T z C N D with ⟨B', P', s', t', r1, r2, r3, r4, g1, g2, g3⟩ | ⟨s', t', r1, r2, r3, r4⟩
      · obtain ⟨u, u1, u2⟩ := ih B' P' s' t' (v2 + 1) (m + 1) r4 r3 g1 (C.d hp g2 g3) (N.d hp C.1 g2 g3) (by omega)
        refine ⟨u, fun f hf => ?_, ?_⟩
        · obtain ⟨f', rfl⟩ : ∃ f', f = f' + 1 := ⟨f - 1, by omega⟩
          rw [stepc, r1, bnd_t]
          exact u1 f' (by omega)
        · rcases u2 with ⟨t2, m2, a1, a2, a3, a4, a5⟩ | ⟨t2, a1, a2, a3⟩
          · refine Or.inl ⟨t2, m2, a1, fun K f hf => ?_, a3, g2.trans a4, g3.trans a5⟩
            obtain ⟨f', rfl⟩ : ∃ f', f = f' + 1 := ⟨f - 1, by omega⟩
            rw [stepm, r2, bnd2_t, if_neg (by decide)]
            exact a2 K f' (by omega)
          · refine Or.inr ⟨t2, a1, fun K f hf => ?_, g3.trans a3⟩
            obtain ⟨f', rfl⟩ : ∃ f', f = f' + 1 := ⟨f - 1, by omega⟩
            rw [stepm, r2, bnd2_t, if_neg (by decide)]
            exact a2 K f' (by omega)
      · refine ⟨s', fun f hf => ?_, Or.inr ⟨t', r3, fun K f hf => ?_, r4⟩⟩
        · obtain ⟨f', rfl⟩ : ∃ f', f = f' + 1 := ⟨f - 1, by omega⟩
          rw [stepc, r1, bnd_t]
          obtain ⟨f'', rfl⟩ : ∃ f'', f' = f'' + 1 := ⟨f' - 1, by omega⟩
          exact dead s' r3.1 f'' _
        · obtain ⟨f', rfl⟩ : ∃ f', f = f' + 1 := ⟨f - 1, by omega⟩
          rw [stepm, r2, bnd2_t, if_pos (Eq.refl _)]
  intro e
  induction e with
  | zero =>
    intro B P s t v2 m he T D C N hv
    refine main 0 B P s t v2 m he T D C N hv (fun B' P' s' t' _ _ hb T' _ _ _ _ => ?_)
    have := T'.le
    omega
  | succ e ih =>
    intro B P s t v2 m he T D C N hv
    exact main (e + 1) B P s t v2 m he T D C N hv (fun B' P' s' t' v m hb T' D' C' N' hv' => ih B' P' s' t' v m (by omega) T' D' C' N' hv')
end DLOOP
section DT2
variable {a r h n : Nat} {s t t' : HS}
/-- told lines where row 5 alone has changed -/
theorem DT.row5 (D : DT a r h n s t) (hr : r ≤ 4) (e1 : ∀ k, k < 5 → t'.1 135 k = t.1 135 k) (e2 : ∀ o, 136 ≤ o → o ≤ 138 → ∀ k, k < 200 → t'.1 o k = t.1 o k) (e3 : ∀ o, 139 ≤ o → o ≤ 144 → t'.1 o = t.1 o) : DT a r h n s t' := by
  obtain ⟨⟨m, m1, m2, m3, m4⟩, b2, b3⟩ := D
  refine ⟨⟨m, m1, m2, by rw [e1 r (by omega)]; exact m3, fun i hi => ?_⟩, ?_, ?_⟩
  · rw [e2 136 (by omega) (by omega) _ (by omega), e2 137 (by omega) (by omega) _ (by omega), e2 138 (by omega) (by omega) _ (by omega)]
    exact m4 i hi
  · unfold SO at b2 ⊢
    rw [e3 139 (by omega) (by omega), e3 140 (by omega) (by omega), e3 141 (by omega) (by omega)]
    exact b2
  · unfold SE at b3 ⊢
    rw [e3 142 (by omega) (by omega), e3 143 (by omega) (by omega), e3 144 (by omega) (by omega)]
    exact b3
end DT2
