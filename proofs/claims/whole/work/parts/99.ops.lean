/-! order: an operator and what follows it, of both; the levels -/
section OPS
variable {p L : Nat}
theorem isSign_cg {s s' : HS} (h : s'.1 36 = s.1 36) (a : Int32) : f_X8_isSign a s' = f_X8_isSign a s := by
  unfold f_X8_isSign; rw [h]
theorem Neg.cg {l d : Nat} {s s' t : HS} (N : Neg l d s t) (h : s'.1 36 = s.1 36) (h2 : s'.2.2.2.2.2.2 = s.2.2.2.2.2.2) : Neg l d s' t := by
  unfold Neg at N ⊢
  simp only [isSign_cg h, h2]
  exact N
theorem r_op (hp : okX4 p = true) {n l0 d k : Nat} (hl : l0 ≤ 3) (A : PS p L n l0 d) {B P : Nat} {s t : HS} {C R : List Int32} (T : TK L B P s t) (hb : B < P) (h : CCs p C s) (g : RCs R t) (hC : C.length + k ≤ B) (hR : R.length ≤ B) (h4 : t.1 124 d = 0 ∨ t.1 124 d = 1) (hpop : popd (t.1 123) d = d) {co ro : Int32} {W : HS → HS} (hW : (∀ a, W a = a) ∨ ∃ y, (y = 0 ∨ y = 1) ∧ ∀ a, W a = sI a 124 d y) (hW3 : 3 ≤ l0 → (W t).1 124 d = 0) (hm : ∀ f, f_X12_reads_l11 KK (f + 1) (I d) (I 0) t = bnd (f_X12_puts ro t) fun a => bnd (f_X12_nextToken (W a)) fun b => f_X12_reads_l11 KK f (I d) (I 1) b) :
    ∃ s1 s2 s3, f_X8_step s = some s1 ∧ cl n (p + 2) (I d) l0 s1 = some s2 ∧ f_X2_add (p + 2) co s2 = some s3 ∧ ((∃ B' P' t' C2 R2 E2, TK L B' P' s3 t' ∧ B < B' ∧ CCs p (C ++ (C2 ++ [co])) s3 ∧ RCs (R ++ ro :: R2) t' ∧ ((C ++ (C2 ++ [co])).length + k ≤ B' ∧ (R ++ ro :: R2).length ≤ B') ∧ PR l0 d C2 R2 E2 ∧ ((∀ j, j ≤ d → t'.1 123 j = t.1 123 j) ∧ (∀ j, j < d → t'.1 124 j = t.1 124 j) ∧ (l0 < 3 → t'.1 124 d = (W t).1 124 d) ∧ (t'.1 124 d = 0 ∨ t'.1 124 d = 1) ∧ ∀ j, j < 1000 → t'.1 122 j = t.1 122 j) ∧ Neg l0 d s3 t' ∧ GoOn L B B' d 0 d 0 t t') ∨ Bad p L d B 0 t s3) := by
  have hle := T.le
  obtain ⟨t1, b1, b2, b3, b4, b5, b6⟩ := put1 T g (by omega) ro
  have w : TK L B P s (W t1) ∧ RCs (R ++ [ro]) (W t1) ∧ (W t1).1 123 = t.1 123 ∧ (W t1).1 122 = t1.1 122 ∧ (∀ j, (W t1).1 124 j = (W t).1 124 j) ∧ (∀ j, j < d → (W t).1 124 j = t.1 124 j) ∧ ((W t).1 124 d = 0 ∨ (W t).1 124 d = 1) := by
    rcases hW with hW | ⟨y, y1, hW⟩
    · rw [hW, hW]
      exact ⟨b3, b2, b4, rfl, fun j => by rw [b5], fun _ _ => rfl, h4⟩
    · rw [hW, hW]
      refine ⟨b3.mI ⟨Or.inl (by decide), by decide⟩, b2.cg (by rw [sI_n _ _ _ (show 101 ≠ 124 from by decide)]) (by rw [sI_n _ _ _ (show 122 ≠ 124 from by decide)]), by rw [sI_n _ _ _ (show 123 ≠ 124 from by decide), b4], by rw [sI_n _ _ _ (show 122 ≠ 124 from by decide)], fun j => by rw [sI_s, sI_s, b5], fun j hj => by rw [sI_s, if_neg (by omega)], by rw [sI_k]; exact y1⟩
  obtain ⟨w1, w2, w3, w4, w5, w6, w7⟩ := w
  obtain ⟨B1, P1, s1, t2, c1, c2, c3, c4, c5, c6, c7, c8, c9⟩ := nx1 hp w1
  have hb1 := c3.le
  have e123 : ∀ j, t2.1 123 j = t.1 123 j := fun j => by rw [c7, w3]
  have e124 : ∀ j, t2.1 124 j = (W t).1 124 j := fun j => by rw [c8, w5]
  have e122 : ∀ j, j < 1000 → t2.1 122 j = t.1 122 j := fun j hj => by rw [c9, w4]; exact b6 j hj
  have G1 : GoOn L B B1 d 0 d 1 t t2 := fun f hf => by
    obtain ⟨f', rfl⟩ := fuelS hf
    refine ⟨f', by omega, ?_⟩
    rw [hm, b1, bnd_t, c2, bnd_t]
  have hp2 : popd (t2.1 123) d = d := (popd_cg (fun j _ => e123 j)).trans hpop
  obtain ⟨s2, d1, d2⟩ := A.1 B1 P1 s1 t2 C (R ++ [ro]) (k + 1) c3 (c5 _ h) (c6 _ w2) (by omega) (by rw [List.length_append]; show R.length + 1 ≤ B1; omega) (by rw [e124]; exact w7) (fun q => by rw [e124]; exact hW3 q) (fun _ => hp2)
  rcases d2 with ⟨B', P', t', C', R', E, o1, o2, o3, o4, ⟨o5, o6⟩, o7, ⟨o8, o9, o10, o11⟩, o12, o13⟩ | ⟨t', o1, o2, o3, o4⟩
  · have hb2 := o1.le
    obtain ⟨s3, u1, u2, u3, u4, u5⟩ := add1 hp o3 (by omega) co
    refine ⟨s1, s2, s3, c1, d1, u1, Or.inl ⟨B', P', t', C', R', E, u5 _ _ _ o1, by omega, ?_, ?_, ⟨?_, ?_⟩, o7, ⟨fun j hj => by rw [o8 j hj, e123], fun j hj => by rw [o9 j (by omega) (Or.inl hj), e124, w6 j hj], fun q => by rw [o9 d (by omega) (Or.inr q), e124], o10, fun j hj => by rw [o11 j hj, e122 j hj]⟩, o12.cg u3 u4, ?_⟩⟩
    · rw [← List.append_assoc]; exact u2
    · rw [List.append_assoc] at o4; exact o4
    · rw [← List.append_assoc, List.length_append]; show (C ++ C').length + 1 + k ≤ B'; omega
    · rw [List.append_assoc] at o6; exact o6
    · rw [hp2] at o13; exact G1.trans o13
  · obtain ⟨s3, u1, u2, u3⟩ := o2.add hp co
    exact ⟨s1, s2, s3, c1, d1, u1, Or.inr ⟨t', ⟨u2.1, by rw [u3]; exact o1.2⟩, u2, fun j hj => by rw [o3 j hj, e122 j hj], G1.ends o4⟩⟩
/-- no operator of the level l stands here -/
def Nop (l : Nat) (s : HS) : Prop := wob s.2.2.2.2.2.2 = true ∧ (l = 1 → f_X8_isSign 42 s = 0) ∧ (l = 2 → f_X8_isSign 43 s = 0 ∧ f_X8_isSign 45 s = 0) ∧ (l = 4 → ¬ s.2.2.2.2.2.2 = 1031 ∧ ¬ s.2.2.2.2.2.2 = 1032)
theorem Dd.nop {s : HS} (D : Dd s) (l : Nat) : Nop l s := ⟨by rw [D.2.2]; decide, fun _ => D.sign _, fun _ => ⟨D.sign _, D.sign _⟩, fun _ => ⟨by rw [D.2.2]; decide, by rw [D.2.2]; decide⟩⟩
def OpS (p L n l l0 d : Nat) (F : Nat → Int32 → HS → Option HS) (B P : Nat) (s t : HS) : Prop := ∃ (co ro : Int32) (W : HS → HS), ((∀ a, W a = a) ∨ ∃ y, (y = 0 ∨ y = 1) ∧ ∀ a, W a = sI a 124 d y) ∧ (3 ≤ l0 → ∀ a, (W a).1 124 d = 0) ∧ (l0 < 3 → ∀ a, W a = a) ∧ B < P ∧ (∀ f v3, v3 < 1000 → F (f + 1) (I v3) s = bnd (f_X8_step s) fun s1 => bnd (cl n (p + 2) (I d) l0 s1) fun s2 => bnd (f_X2_add (p + 2) co s2) fun s3 => F f (I (v3 + 1)) s3) ∧ (∀ f, f_X12_reads_l11 KK (f + 1) (I d) (I 0) t = bnd (f_X12_puts ro t) fun a => bnd (f_X12_nextToken (W a)) fun b => f_X12_reads_l11 KK f (I d) (I 1) b) ∧ (∀ C R E C' R' E', PR l d C R E → PR l0 d C' R' E' → ∃ E'', PR l d (C ++ (C' ++ [co])) (R ++ ro :: R') E'')
theorem r_loop (hp : okX4 p = true) {n l l0 d k : Nat} (hl : l0 ≤ 3) (hl0 : l0 < l) (A : PS p L n l0 d) {F : Nat → Int32 → HS → Option HS} (hstop : ∀ f v3 s, Nop l s → F (f + 1) v3 s = some s) (hop : ∀ B P s t, TK L B P s t → Nop l s ∨ OpS p L n l l0 d F B P s t) (hneg : ∀ s t, Neg l0 d s t → Nop l s → Neg l d s t) : ∀ e B P s t C R C1 R1 E v3, L - B ≤ e → TK L B P s t → CCs p (C ++ C1) s → RCs (R ++ R1) t → (C ++ C1).length + k ≤ B → (R ++ R1).length ≤ B → (t.1 124 d = 0 ∨ t.1 124 d = 1) → popd (t.1 123) d = d → PR l d C1 R1 E → Neg l0 d s t → v3 ≤ B → ∃ s', (∀ f, e < f → F f (I v3) s = some s') ∧ (Okk p L l d k B 0 C R t s' ∨ Bad p L d B 0 t s') := by
  intro e
  induction e with
  | zero =>
    intro B P s t C R C1 R1 E v3 he T h g hC hR h4 hpop hE hN hv
    have hle := T.le
    rcases hop B P s t T with no | ⟨co, ro, W, -, -, -, hb, -⟩
    · refine ⟨s, fun f hf => ?_, Or.inl ⟨B, P, t, C1, R1, E, T, Nat.le_refl _, h, g, ⟨hC, hR⟩, hE, ⟨fun _ _ => rfl, fun _ _ _ => rfl, h4, fun _ _ => rfl⟩, hneg s t hN no, fun f hf => ⟨f, hf, by rw [hpop]⟩⟩⟩
      obtain ⟨f', rfl⟩ : ∃ f', f = f' + 1 := ⟨f - 1, by omega⟩
      exact hstop f' _ s no
    · omega
  | succ e ih =>
    intro B P s t C R C1 R1 E v3 he T h g hC hR h4 hpop hE hN hv
    have hle := T.le
    rcases hop B P s t T with no | ⟨co, ro, W, w1, w2, w3, hb, hF, hm, hPR⟩
    · refine ⟨s, fun f hf => ?_, Or.inl ⟨B, P, t, C1, R1, E, T, Nat.le_refl _, h, g, ⟨hC, hR⟩, hE, ⟨fun _ _ => rfl, fun _ _ _ => rfl, h4, fun _ _ => rfl⟩, hneg s t hN no, fun f hf => ⟨f, hf, by rw [hpop]⟩⟩⟩
      obtain ⟨f', rfl⟩ : ∃ f', f = f' + 1 := ⟨f - 1, by omega⟩
      exact hstop f' _ s no
    · obtain ⟨s1, s2, s3, c1, c2, c3, c4⟩ := r_op hp hl A T hb h g hC hR h4 hpop (co := co) w1 (fun q => w2 q t) hm
      rcases c4 with ⟨B', P', t', C2, R2, E2, o1, o2, o3, o4, ⟨o5, o6⟩, o7, ⟨o8, o9, o10, o11, o12⟩, o13, o14⟩ | bad
      · obtain ⟨E3, hE3⟩ := hPR _ _ _ _ _ _ hE o7
        rw [List.append_assoc] at o3 o5 o4 o6
        obtain ⟨s', r1, r2⟩ := ih B' P' s3 t' C R (C1 ++ (C2 ++ [co])) (R1 ++ ro :: R2) E3 (v3 + 1) (by omega) o1 o3 o4 o5 o6 o11 ((popd_cg o8).trans hpop) hE3 o13 (by omega)
        refine ⟨s', fun f hf => ?_, ?_⟩
        · obtain ⟨f', rfl⟩ : ∃ f', f = f' + 1 := ⟨f - 1, by omega⟩
          rw [hF f' v3 (by omega), c1, bnd_t, c2, bnd_t, c3, bnd_t]
          exact r1 f' (by omega)
        · rcases r2 with ⟨B2, P2, t2, C3, R3, E4, z1, z2, z3, z4, z5, z6, ⟨z7, z8, z9, z10⟩, z11, z12⟩ | ⟨t2, z1, z2, z3, z4⟩
          · refine Or.inl ⟨B2, P2, t2, C3, R3, E4, z1, by omega, z3, z4, z5, z6, ⟨fun j hj => by rw [z7 j hj, o8 j hj], fun j hj hj2 => ?_, z9, fun j hj => by rw [z10 j hj, o12 j hj]⟩, z11, ?_⟩
            · rw [z8 j hj hj2]
              rcases hj2 with q | q
              · exact o9 j q
              · by_cases y : j = d
                · subst y
                  rw [o10 (by omega), w3 (by omega)]
                · exact o9 j (by omega)
            · rw [popd_cg o8] at z12
              exact o14.trans z12
          · exact Or.inr ⟨t2, z1, z2, fun j hj => by rw [z3 j hj, o12 j hj], o14.ends z4⟩
      · refine ⟨s3, fun f hf => ?_, Or.inr bad⟩
        obtain ⟨f', rfl⟩ : ∃ f', f = f' + 1 := ⟨f - 1, by omega⟩
        rw [hF f' v3 (by omega), c1, bnd_t, c2, bnd_t, c3, bnd_t]
        obtain ⟨f'', rfl⟩ : ∃ f'', f' = f'' + 1 := ⟨f' - 1, by omega⟩
        obtain ⟨-, -, D, -⟩ := bad
        exact hstop f'' _ s3 (D.1.nop l)
theorem r_lvl (hp : okX4 p = true) {n l l0 d : Nat} (hl : l0 ≤ 3) (hl0 : l0 < l) (h3 : 3 ≤ l0 → 3 ≤ l) (A : PS p L n l0 d) {F : Nat → Int32 → HS → Option HS} (hcl : ∀ s, cl n (p + 2) (I d) l s = bnd (cl n (p + 2) (I d) l0 s) fun s2 => F FU 0 s2) (hstop : ∀ f v3 s, Nop l s → F (f + 1) v3 s = some s) (hop : ∀ B P s t, TK L B P s t → Nop l s ∨ OpS p L n l l0 d F B P s t) (hneg : ∀ s t, Neg l0 d s t → Nop l s → Neg l d s t) (hup : ∀ C R E, PR l0 d C R E → PR l d C R E) : PS p L n l d := by
  constructor
  · intro B P s t C R k T h g hC hR h4 h5 hpop
    have hpop := hpop (by omega)
    have hle := T.le
    obtain ⟨s2, d1, d2⟩ := A.1 B P s t C R k T h g hC hR h4 (fun q => h5 (by omega)) (fun _ => hpop)
    rw [hcl, d1, bnd_t]
    rcases d2 with ⟨B', P', t', C', R', E, o1, o2, o3, o4, ⟨o5, o6⟩, o7, ⟨o8, o9, o10, o11⟩, o12, o13⟩ | ⟨t', o1, o2, o3, o4⟩
    · have hb2 := o1.le
      obtain ⟨s', r1, r2⟩ := r_loop hp (k := k) hl hl0 A hstop hop hneg (L - B') B' P' s2 t' C R C' R' E 0 (Nat.le_refl _) o1 o3 o4 o5 o6 o10 ((popd_cg o8).trans hpop) (hup _ _ _ o7) o12 (by omega)
      have r1 := r1 FU (FU_lt (by omega))
      rw [I_e0] at r1
      refine ⟨s', r1, ?_⟩
      rw [hpop] at o13
      rcases r2 with ⟨B2, P2, t2, C3, R3, E4, z1, z2, z3, z4, z5, z6, ⟨z7, z8, z9, z10⟩, z11, z12⟩ | ⟨t2, z1, z2, z3, z4⟩
      · refine Or.inl ⟨B2, P2, t2, C3, R3, E4, z1, by omega, z3, z4, z5, z6, ⟨fun j hj => by rw [z7 j hj, o8 j hj], fun j hj hj2 => by rw [z8 j hj hj2, o9 j hj (hj2.imp id (fun q => by omega))], z9, fun j hj => by rw [z10 j hj, o11 j hj]⟩, z11, ?_⟩
        rw [popd_cg o8] at z12
        exact o13.trans z12
      · exact Or.inr ⟨t2, z1, z2, fun j hj => by rw [z3 j hj, o11 j hj], o13.ends z4⟩
    · refine ⟨s2, ?_, Or.inr ⟨t', o1, o2, o3, o4⟩⟩
      obtain ⟨f, hf⟩ := FU_s
      rw [hf]
      exact hstop f _ s2 (o2.1.nop l)
  · intro s D
    obtain ⟨s2, d1, d2, d3⟩ := A.2 s D
    refine ⟨s2, ?_, d2, d3⟩
    rw [hcl, d1, bnd_t]
    obtain ⟨f, hf⟩ := FU_s
    rw [hf]
    exact hstop f _ s2 (d2.1.nop l)
end OPS
