/-! Frames of the class's readers: what they may write of the draft -/
theorem wsub_trans {A B C : List (Nat × Nat)} (h : wsub A B = true) (g : wsub B C = true) : wsub A C = true := by
  unfold wsub at *
  refine List.all_eq_true.mpr fun q hq => ?_
  obtain ⟨r, r1, r2⟩ := List.any_eq_true.mp (List.all_eq_true.mp h q hq)
  obtain ⟨u, u1, u2⟩ := List.any_eq_true.mp (List.all_eq_true.mp g r r1)
  simp only [Bool.and_eq_true, Bool.or_eq_true, beq_iff_eq] at r2 u2
  refine List.any_eq_true.mpr ⟨u, u1, ?_⟩
  simp only [Bool.and_eq_true, Bool.or_eq_true, beq_iff_eq]
  refine ⟨u2.1.trans r2.1, ?_⟩
  rcases u2.2 with z | z
  · exact Or.inl z
  · rcases r2.2 with y | y
    · exact Or.inl (z.trans y)
    · exact Or.inr (z.trans y)
section FB
variable {β : Type} {π : β → HS} {L : List (Nat × Nat)} {s0 : HS}
theorem fb_bnd {x : Option HS} {f : HS → Option β} (hx : FX id L s0 x) (h : ∀ s', Fr L s0 s' → FX π L s0 (f s')) : FX π L s0 (bnd x f) := fun r e => by
  obtain ⟨y, e1, e2⟩ := bnd_s e
  exact h y (hx y e1) r e2
theorem fb_bnd2 {γ : Type} {x : Option (γ × HS)} {f : γ → HS → Option β} (hx : FX Prod.snd L s0 x) (h : ∀ y s', Fr L s0 s' → FX π L s0 (f y s')) : FX π L s0 (bnd2 x f) := fun r e => by
  obtain ⟨y, z, e1, e2⟩ := bnd2_s e
  exact h y z (hx (y, z) e1) r e2
theorem fb_lift {M : List (Nat × Nat)} {s : HS} {x : Option β} (h : FX π M s x) (hs : wsub M L = true) (h0 : Fr L s0 s) : FX π L s0 x := fun r e => h0.trans ((h r e).mono hs)
theorem fb_ltN {x : Nat} {f : Nat → Option β} (h : FX π L s0 (f x)) : FX π L s0 (ltb x f) := h
end FB
section W3
variable {L : List (Nat × Nat)} {s0 : HS} {q : Nat}
theorem b_step (hs : wsub LF1 L = true) {s : HS} (h : Fr L s0 s) : FX id L s0 (f_X8_step s) := fb_lift (w_X8_step s) (wsub_trans (by decide) hs) h
theorem b_fail (hs : wsub LF1 L = true) {s : HS} (h : Fr L s0 s) (v : Int32) : FX id L s0 (f_X8_fail v s) := fb_lift (w_X8_fail v s) (wsub_trans (by decide) hs) h
theorem b_sign (hs : wsub LF1 L = true) {s : HS} (h : Fr L s0 s) (v : Int32) : FX id L s0 (f_X8_takeSign v s) := fb_lift (w_X8_takeSign v s) (wsub_trans (by decide) hs) h
theorem b_take (hs : wsub LF1 L = true) {s : HS} (h : Fr L s0 s) (v : Nat) : FX id L s0 (f_X8_take v s) := fb_lift (w_X8_take v s) (wsub_trans (by decide) hs) h
theorem b_num (hs : wsub LF1 L = true) {s : HS} (h : Fr L s0 s) (a b : Int32) : FX Prod.snd L s0 (f_X8_takeNumber a b s) := fb_lift (w_X8_takeNumber a b s) (wsub_trans (by decide) hs) h
theorem b_known (hs : wsub LF1 L = true) {s : HS} (h : Fr L s0 s) (a : Int32) : FX Prod.snd L s0 (f_X8_takeKnown a s) := fb_lift (w_X8_takeKnown a s) (wsub_trans (by decide) hs) h
theorem b_one (hs : wsub LF1 L = true) {s : HS} (h : Fr L s0 s) (a b c : Nat) : FX Prod.snd L s0 (f_X8_takeOneOf a b c s) := fb_lift (w_X8_takeOneOf a b c s) (wsub_trans (by decide) hs) h
theorem b_add (H : ∀ k, wm L q k = true ∧ wm L (Rf q 0) k = true) {s : HS} (h : Fr L s0 s) (v : Int32) : FX id L s0 (f_X2_add q v s) := by
  unfold f_X2_add
  refine fo_ite (fo_some1 h) (fo_gd (fo_sI (H _).2 h (fun s2 h2 => fo_sI (H _).1 h2 (fun s4 h4 => fo_some1 h4))))
theorem b_prod (hs : wsub LF1 L = true) (H : ∀ k, wm L q k = true ∧ wm L (Rf q 0) k = true) {rp : Nat → Int32 → HS → Option HS} (hrp : ∀ v s, Fr L s0 s → FX id L s0 (rp q v s)) (v : Int32) {s : HS} (h : Fr L s0 s) : FX id L s0 (f_X3_readProduct rp q v s) := by
  have lp : ∀ f v3 s, Fr L s0 s → FX id L s0 (f_X3_readProduct_l8 rp q v f v3 s) := by
    intro f
    induction f with
    | zero => intro v3 s _; exact fo_none
    | succ f ih =>
      intro v3 s h
      show FX id L s0 (f_X3_readProduct_l8b rp q v v3 _ s)
      unfold f_X3_readProduct_l8b
      exact fo_ite (fo_some1 h) (fo_ite (fo_some1 h) (fb_bnd (b_step hs h) (fun s6 h6 => fb_bnd (hrp v s6 h6) (fun s8 h8 => fb_bnd (b_add H h8 _) (fun s10 h10 => fo_ltI (fun y => ih y s10 h10))))))
  unfold f_X3_readProduct
  exact fb_bnd (hrp v s h) (fun s2 h2 => lp FU 0 s2 h2)
theorem b_sum (hs : wsub LF1 L = true) (H : ∀ k, wm L q k = true ∧ wm L (Rf q 0) k = true) {rp : Nat → Int32 → HS → Option HS} (hrp : ∀ v s, Fr L s0 s → FX id L s0 (rp q v s)) (v : Int32) {s : HS} (h : Fr L s0 s) : FX id L s0 (f_X3_readSum rp q v s) := by
  have lp : ∀ f v3 s, Fr L s0 s → FX id L s0 (f_X3_readSum_l8 rp q v f v3 s) := by
    intro f
    induction f with
    | zero => intro v3 s _; exact fo_none
    | succ f ih =>
      intro v3 s h
      show FX id L s0 (f_X3_readSum_l8b rp q v v3 _ s)
      unfold f_X3_readSum_l8b f_X3_readSum_j39 f_X3_readSum_j58
      have k : ∀ w, FX id L s0 (bnd (f_X8_step s) fun s7 => bnd (f_X3_readProduct rp q v s7) fun s9 => bnd (f_X2_add q w s9) fun s11 => ltb (v3 + 1) fun x12 => f_X3_readSum_l8 rp q v f x12 s11) := fun w => fb_bnd (b_step hs h) (fun s6 h6 => fb_bnd (b_prod hs H hrp v h6) (fun s8 h8 => fb_bnd (b_add H h8 _) (fun s10 h10 => fo_ltI (fun y => ih y s10 h10))))
      exact fo_ite (fo_some1 h) (fo_ite (fo_ite (fo_some1 h) (fo_ite (k _) (k _))) (fo_ite (k _) (k _)))
  unfold f_X3_readSum
  exact fb_bnd (b_prod hs H hrp v h) (fun s2 h2 => lp FU 0 s2 h2)
theorem b_test (hs : wsub LF1 L = true) (H : ∀ k, wm L q k = true ∧ wm L (Rf q 0) k = true) {rp : Nat → Int32 → HS → Option HS} (hrp : ∀ v s, Fr L s0 s → FX id L s0 (rp q v s)) (v : Int32) {s : HS} (h : Fr L s0 s) : FX id L s0 (f_X3_readTest rp q v s) := by
  unfold f_X3_readTest
  refine fb_bnd (b_sum hs H hrp v h) (fun s2 h2 => ?_)
  unfold f_X3_readTest_j30 f_X3_readTest_j49
  have k : ∀ w, FX id L s0 (bnd (f_X8_step s2) fun s6 => bnd (f_X3_readSum rp q v s6) fun s8 => bnd (f_X2_add q w s8) fun s10 => some s10) := fun w => fb_bnd (b_step hs h2) (fun s6 h6 => fb_bnd (b_sum hs H hrp v h6) (fun s8 h8 => fb_bnd (b_add H h8 _) (fun s10 h10 => fo_some1 h10)))
  exact fo_ite (fo_ite (fo_some1 h2) (fo_ite (k _) (k _))) (fo_ite (k _) (k _))
theorem b_whole (hs : wsub LF1 L = true) (H : ∀ k, wm L q k = true ∧ wm L (Rf q 0) k = true) {rp : Nat → Int32 → HS → Option HS} (hrp : ∀ v s, Fr L s0 s → FX id L s0 (rp q v s)) (v : Int32) {s : HS} (h : Fr L s0 s) : FX id L s0 (f_X3_readWhole rp q v s) := by
  have lp : ∀ f v3 s, Fr L s0 s → FX id L s0 (f_X3_readWhole_l8 rp q v f v3 s) := by
    intro f
    induction f with
    | zero => intro v3 s _; exact fo_none
    | succ f ih =>
      intro v3 s h
      show FX id L s0 (f_X3_readWhole_l8b rp q v v3 _ s)
      unfold f_X3_readWhole_l8b f_X3_readWhole_j41 f_X3_readWhole_j61
      have k : ∀ w, FX id L s0 (bnd (f_X8_step s) fun s7 => bnd (f_X3_readTest rp q v s7) fun s9 => bnd (f_X2_add q w s9) fun s11 => ltb (v3 + 1) fun x12 => f_X3_readWhole_l8 rp q v f x12 s11) := fun w => fb_bnd (b_step hs h) (fun s6 h6 => fb_bnd (b_test hs H hrp v h6) (fun s8 h8 => fb_bnd (b_add H h8 _) (fun s10 h10 => fo_ltI (fun y => ih y s10 h10))))
      exact fo_ite (fo_some1 h) (fo_gd (fo_ite (fo_gd (fo_ite (k _) (k _))) (fo_gd (fo_ite (fo_gd (fo_ite (k _) (k _))) (fo_some1 h)))))
  unfold f_X3_readWhole
  exact fb_bnd (b_test hs H hrp v h) (fun s2 h2 => lp FU 0 s2 h2)
theorem b_part (hs : wsub LF1 L = true) (H : ∀ k, wm L q k = true ∧ wm L (Rf q 0) k = true) : ∀ n v s, Fr L s0 s → FX id L s0 (f_X3_readPart n q v s) := by
  intro n
  induction n with
  | zero => intro v s _; exact fo_none
  | succ n ih =>
    intro v s h
    show FX id L s0 (f_X3_readPartb (f_X3_readPart n) q v s)
    have j97 : ∀ v3 v4 v5, FX id L s0 (f_X3_readPart_j97 (f_X3_readPart n) q v v3 v4 v5 s) := fun v3 v4 v5 => by
      unfold f_X3_readPart_j97
      refine fo_ite (fo_ite (fo_ite (fo_ite ?_ (fo_gd ?_)) ?_) ?_) ?_
      · exact fb_bnd (b_add H h _) (fun s2 h2 => fb_bnd (b_step hs h2) (fun s3 h3 => fo_some1 h3))
      · exact fb_bnd (b_add H h _) (fun s2 h2 => fb_bnd (b_step hs h2) (fun s3 h3 => fo_some1 h3))
      · exact fb_bnd (b_step hs h) (fun s2 h2 => fb_bnd (b_whole hs H ih _ h2) (fun s3 h3 => fb_bnd (b_sign hs h3 _) (fun s4 h4 => fo_some1 h4)))
      · exact fb_bnd (b_step hs h) (fun s2 h2 => fb_bnd (ih _ s2 h2) (fun s3 h3 => fb_bnd (b_add H h3 _) (fun s4 h4 => fo_some1 h4)))
      · exact fb_bnd (b_fail hs h _) (fun s2 h2 => fo_some1 h2)
    have j48 : ∀ v3 w0, FX id L s0 (f_X3_readPart_j48 (f_X3_readPart n) q v v3 w0 s) := fun v3 w0 => by
      unfold f_X3_readPart_j48
      exact fo_ltI (fun y => fo_ite (j97 _ _ _) (fo_ite (fo_ite (fo_ite (fb_bnd (b_fail hs h _) (fun s2 h2 => fo_some1 h2)) (j97 _ _ _)) (j97 _ _ _)) (j97 _ _ _)))
    have j29 : ∀ w0, FX id L s0 (f_X3_readPart_j29 (f_X3_readPart n) q v w0 s) := fun w0 => by
      unfold f_X3_readPart_j29
      exact fo_gd (fo_ite (j48 _ _) (j48 _ _))
    unfold f_X3_readPartb f_X3_readPart_j28
    exact fo_gd (fo_ite (j29 _) (fo_gd (fo_gd (fo_ite (j29 _) (j29 _)))))
end W3
