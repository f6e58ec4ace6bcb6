/-! Frames of the class's readers of lines -/
def LPd (p : Nat) : List (Nat × Nat) := LF1 ++ ([(36, 2), (69, 3)] ++ (List.range 26).map (fun k => (p + k, 0)))
def HBq (p : Nat) (L : List (Nat × Nat)) : Prop := (∀ k, wm L p k = true) ∧ (∀ k, wm L (Rf p 7) k = true) ∧ (∀ k, wm L (Rf p 8) k = true ∧ wm L (Rf (Rf p 8) 0) k = true) ∧ (∀ k, wm L (Rf p 10) k = true) ∧ (∀ k, wm L (Rf p 11) k = true) ∧ (∀ i, i < 5 → ∀ k, wm L (Rf (Rf p 13) i) k = true) ∧ (∀ i, i < 6 → ∀ k, wm L (Rf (Rf p 15) i) k = true ∧ wm L (Rf (Rf (Rf p 15) i) 5) k = true) ∧ wm L 69 2 = true ∧ wsub [(36, 2)] L = true ∧ wsub LF1 L = true
theorem inb_lt {x : Int32} {n : Nat} (h : inb x n = true) : x.toNatClampNeg < n := by
  unfold inb at h
  simp at h
  exact h.2
theorem LPd_o {p : Nat} : ∀ k, k < 26 → ∀ j, wm (LPd p) (p + k) j = true := fun k hk j => by
  refine wm_all (List.any_eq_true.mpr ⟨(p + k, 0), ?_, by simp⟩) j
  unfold LPd
  exact List.mem_append_right _ (List.mem_append_right _ (List.mem_map.mpr ⟨k, List.mem_range.mpr hk, rfl⟩))
theorem HB_of {p : Nat} (hp : okX4 p = true) : HBq p (LPd p) := by
  have o := LPd_o (p := p)
  refine ⟨fun k => o 0 (by omega) k, fun k => by rw [lS_e hp]; exact o 1 (by omega) k, fun k => ⟨by rw [(qS_e hp).1]; exact o 2 (by omega) k, by rw [(qS_e hp).1, (qS_e hp).2.1]; exact o 3 (by omega) k⟩, fun k => by rw [cS_e hp]; exact o 5 (by omega) k, fun k => by rw [yS_e hp]; exact o 6 (by omega) k, fun i hi k => ?_, fun i hi k => ⟨?_, ?_⟩, ?_, ?_, ?_⟩
  · have := tS_e hp hi
    unfold tS at this
    rw [this]; exact o _ (by omega) k
  · have := bS_e hp hi
    unfold bS at this
    rw [this]; exact o _ (by omega) k
  · have := wS_e hp hi
    unfold bS at this
    rw [this]; exact o _ (by omega) k
  · rcases okX4_c hp with rfl | rfl <;> decide
  · rcases okX4_c hp with rfl | rfl <;> decide
  · rcases okX4_c hp with rfl | rfl <;> decide
section W5
variable {L : List (Nat × Nat)} {s0 : HS} {p : Nat}
theorem b_new (hs : wsub LF1 L = true) {s : HS} (h : Fr L s0 s) : FX Prod.snd L s0 (f_X5_takeNewName p s) := by
  unfold f_X5_takeNewName
  have bad : ∀ v x, FX Prod.snd L s0 (bnd (f_X8_fail v s) fun s19 => some ((x : Int64), s19)) := fun v x => fb_bnd (b_fail hs h v) (fun s2 h2 => fo_some2 h2)
  exact fo_ltL (fun x => fo_bndv (fun y => fo_ite (bad _ _) (fo_bndv (fun y => fo_ite (bad _ _) (fo_bndv (fun y => fo_ite (bad _ _) (fo_bndv (fun y => fo_ite (fb_bnd (b_step hs h) (fun s2 h2 => fo_some2 h2)) (bad _ _)))))))))
theorem b_coach (H : HBq p L) {s : HS} (h : Fr L s0 s) : FX id L s0 (f_X5_readCoach p s) := by
  obtain ⟨h0, -, -, h10, h11, -, -, -, -, hs⟩ := H
  unfold f_X5_readCoach
  refine fo_ite (fb_bnd (b_step hs h) (fun s3 h3 => fb_bnd2 (b_new hs h3) (fun y s5 h5 => fo_gd (fo_sL (h10 _) h5 (fun s6 h6 => fb_bnd (b_take hs h6 _) (fun s9 h9 => fb_bnd2 (b_num hs h9 _ _) (fun y s11 h11' => fo_gd (fo_sI (h11 _) h11' (fun s12 h12 => fo_sI (h0 _) h12 (fun s14 h14 => fo_some1 h14)))))))))) (fb_bnd (b_fail hs h _) (fun s16 h16 => fo_some1 h16))
theorem b_thing (H : HBq p L) {s : HS} (h : Fr L s0 s) : FX id L s0 (f_X5_readThing p s) := by
  obtain ⟨h0, -, -, -, -, h13, -, -, -, hs⟩ := H
  unfold f_X5_readThing
  refine fo_ite (fo_gdh (fun hi => fb_ltN ?_)) (fb_bnd (b_fail hs h _) (fun s16 h16 => fo_some1 h16))
  have w := h13 _ (inb_lt hi)
  exact fb_bnd (b_step hs h) (fun s3 h3 => fb_bnd2 (b_new hs h3) (fun y s5 h5 => fo_sL (w _) h5 (fun s6 h6 => fb_bnd2 (b_one hs h6 _ _ _) (fun y s7 h7 => fo_sI (w _) h7 (fun s8 h8 => fb_bnd (b_take hs h8 _) (fun s9 h9 => fb_bnd2 (b_num hs h9 _ _) (fun y s10 h10 => fo_sI (w _) h10 (fun s11 h11 => fb_bnd (b_take hs h11 _) (fun s12 h12 => fb_bnd2 (b_num hs h12 _ _) (fun y s13 h13 => fo_sI (w _) h13 (fun s14 h14 => fb_bnd (b_take hs h14 _) (fun s15 h15 => fb_bnd2 (b_num hs h15 _ _) (fun y s16 h16 => fo_sI (w _) h16 (fun s17 h17 => fb_bnd (b_take hs h17 _) (fun s18 h18 => fb_bnd2 (b_num hs h18 _ _) (fun y s19 h19 => fo_sI (w _) h19 (fun s20 h20 => fo_sI (h0 _) h20 (fun s21 h21 => fo_some1 h21))))))))))))))))))
theorem b_wants (hs : wsub LF1 L = true) {o3 : Nat} (w : ∀ k, wm L o3 k = true ∧ wm L (Rf o3 5) k = true) {s : HS} (h : Fr L s0 s) : FX id L s0 (f_X5_readWants p o3 s) := by
  have lp : ∀ f v3 s, Fr L s0 s → FX id L s0 (f_X5_readWants_l12 p o3 f v3 s) := by
    intro f
    induction f with
    | zero => intro v3 s _; exact fo_none
    | succ f ih =>
      intro v3 s h
      show FX id L s0 (f_X5_readWants_l12b p o3 v3 _ s)
      have j165 : ∀ s, Fr L s0 s → FX id L s0 (f_X5_readWants_j165 p o3 v3 (f_X5_readWants_l12 p o3 f) s) := fun s h => by
        unfold f_X5_readWants_j165
        exact fo_ltI (fun y => ih y s h)
      have bad : ∀ v, FX id L s0 (bnd (f_X8_fail v s) fun s25 => f_X5_readWants_j165 p o3 v3 (f_X5_readWants_l12 p o3 f) s25) := fun v => fb_bnd (b_fail hs h v) j165
      have j32 : FX id L s0 (f_X5_readWants_j32 p o3 v3 (f_X5_readWants_l12 p o3 f) s) := by
        unfold f_X5_readWants_j32
        exact fo_bndv (fun y => fo_bndv (fun y => fo_ite (bad _) (fo_ite (fo_ite (fo_ite (fo_gd (fo_sI (w _).2 h (fun s2 h2 => fo_sI (w _).1 h2 (fun s3 h3 => fo_sI (w _).1 h3 (fun s4 h4 => fb_bnd (b_step hs h4) j165))))) (bad _)) (bad _)) (bad _))))
      unfold f_X5_readWants_l12b
      exact fo_ite (fo_some1 h) (fo_ite j32 (fo_ite j32 (fo_some1 h)))
  unfold f_X5_readWants
  exact fo_sI (w _).1 h (fun s2 h2 => fo_sI (w _).1 h2 (fun s3 h3 => lp FU 0 s3 h3))
theorem b_buyer (H : HBq p L) {s : HS} (h : Fr L s0 s) : FX id L s0 (f_X5_readBuyer p s) := by
  obtain ⟨h0, -, -, -, -, -, h15, -, -, hs⟩ := H
  unfold f_X5_readBuyer
  refine fo_ite (fo_gdh (fun hi => fb_ltN ?_)) (fb_bnd (b_fail hs h _) (fun s16 h16 => fo_some1 h16))
  have w := h15 _ (inb_lt hi)
  exact fb_bnd (b_step hs h) (fun s3 h3 => fb_bnd2 (b_new hs h3) (fun y s5 h5 => fo_sL (w _).1 h5 (fun s6 h6 => fb_bnd2 (b_one hs h6 _ _ _) (fun y s7 h7 => fo_sI (w _).1 h7 (fun s8 h8 => fb_bnd (b_take hs h8 _) (fun s9 h9 => fo_bndv (fun y => fb_bnd2 (b_known hs h9 _) (fun y s10 h10 => fo_sI (w _).1 h10 (fun s11 h11 => fb_bnd (b_take hs h11 _) (fun s12 h12 => fb_bnd2 (b_num hs h12 _ _) (fun y s13 h13 => fo_sI (w _).1 h13 (fun s14 h14 => fb_bnd (b_take hs h14 _) (fun s15 h15 => fb_bnd2 (b_num hs h15 _ _) (fun y s16 h16 => fo_sI (w _).1 h16 (fun s17 h17 => fb_bnd (b_take hs h17 _) (fun s18 h18 => fb_bnd (b_wants hs w h18) (fun s19 h19 => fo_sI (h0 _) h19 (fun s21 h21 => fo_some1 h21))))))))))))))))))
theorem b_once (H : HBq p L) (v : Nat) {s : HS} (h : Fr L s0 s) : FX id L s0 (f_X5_readOnce p v s) := by
  obtain ⟨h0, -, -, -, -, -, -, -, -, hs⟩ := H
  unfold f_X5_readOnce
  have one : ∀ a b k, FX id L s0 (bnd2 (f_X8_takeNumber a b s) fun y s2 => ltb (sI s2 p k y) fun s3 => some s3) := fun a b k => fb_bnd2 (b_num hs h _ _) (fun y s2 h2 => fo_sI (h0 _) h2 (fun s3 h3 => fo_some1 h3))
  exact fo_ite (fb_bnd2 (b_num hs h _ _) (fun y s2 h2 => fo_sI (h0 _) h2 (fun s3 h3 => fb_bnd (b_take hs h3 _) (fun s4 h4 => fb_bnd2 (b_num hs h4 _ _) (fun y s5 h5 => fo_sI (h0 _) h5 (fun s6 h6 => fo_some1 h6)))))) (fo_ite (one _ _ _) (fo_ite (one _ _ _) (fo_ite (one _ _ _) (fo_ite (one _ _ _) (one _ _ _)))))
theorem b_late (H : HBq p L) {s : HS} (h : Fr L s0 s) : FX id L s0 (f_X5_readLate p s) := by
  obtain ⟨-, h7, -, -, -, -, -, -, -, hs⟩ := H
  have lp : ∀ K, (∀ v s, Fr L s0 s → FX id L s0 (K v s)) → ∀ f v2 v3 s, Fr L s0 s → FX id L s0 (f_X5_readLate_l5 p K f v2 v3 s) := by
    intro K hK f
    induction f with
    | zero => intro v2 v3 s _; exact fo_none
    | succ f ih =>
      intro v2 v3 s h
      show FX id L s0 (f_X5_readLate_l5b p v2 v3 _ K s)
      unfold f_X5_readLate_l5b
      exact fo_ite (hK _ _ h) (fb_bnd2 (b_num hs h _ _) (fun y s2 h2 => fo_gd (fo_sI (h7 _) h2 (fun s3 h3 => fo_gd (fo_ltI (fun a => fo_ltI (fun b => ih a b s3 h3)))))))
  unfold f_X5_readLate
  exact lp _ (fun v s h => fb_bnd2 (b_num hs h _ _) (fun y s2 h2 => fo_sI (h7 _) h2 (fun s3 h3 => fo_some1 h3))) FU 10 0 s h
theorem b_line (H : HBq p L) {s : HS} (h : Fr L s0 s) : FX id L s0 (f_X5_readLine p s) := by
  obtain ⟨-, -, h8, -, -, -, -, h69, -, hs⟩ := id H
  have j : ∀ s, Fr L s0 s → FX id L s0 (f_X5_readLine_j161 s) := fun s h => by
    unfold f_X5_readLine_j161
    exact fb_bnd (b_sign hs h _) (fun s2 h2 => fo_some1 h2)
  have bad : ∀ v, FX id L s0 (bnd (f_X8_fail v s) fun s7 => f_X5_readLine_j161 s7) := fun v => fb_bnd (b_fail hs h v) j
  unfold f_X5_readLine
  exact fo_gd (fo_ite (fb_bnd (b_coach H h) j) (fo_ite (fb_bnd (b_thing H h) j) (fo_ite (fb_bnd (b_buyer H h) j) (fo_ite (bad _) (fo_gd (fo_ite (fo_gd (fo_ite (fo_gd (fo_sI h69 h (fun s2 h2 => fb_bnd (b_step hs h2) (fun s3 h3 => fo_ite (fb_bnd (b_late H h3) j) (fo_ite (fb_bnd (b_whole hs h8 (b_part hs h8 8) _ h3) j) (fb_bnd (b_once H _ h3) j)))))) (bad _))) (bad _)))))))
theorem b_read (H : HBq p L) {s : HS} (h : Fr L s0 s) : FX Prod.snd L s0 (f_X5_read p s) := by
  obtain ⟨h0, h7, h8, -, -, -, -, h69, h36, hs⟩ := id H
  have fin : ∀ s, Fr L s0 s → FX Prod.snd L s0 (bnd2 (f_X8_finish s) fun y7 s8 => some (y7, s8)) := fun s h => fb_bnd2 (fb_lift (w_X8_finish s) (wsub_trans (by decide) h36) h) (fun y s2 h2 => fo_some2 h2)
  have lp : ∀ f v2 s, Fr L s0 s → FX Prod.snd L s0 (f_X5_read_l18 p f v2 s) := by
    intro f
    induction f with
    | zero => intro v2 s _; exact fo_none
    | succ f ih =>
      intro v2 s h
      show FX Prod.snd L s0 (f_X5_read_l18b p v2 _ s)
      unfold f_X5_read_l18b
      exact fo_ite (fin s h) (fo_ite (fin s h) (fb_bnd (b_line H h) (fun s2 h2 => fo_ltI (fun y => ih y s2 h2))))
  have cl : FX id L s0 (f_X4_clear p s) := by
    unfold f_X4_clear
    exact fo_sI (h0 _) h (fun s h => fo_sI (h0 _) h (fun s h => fo_sI (h0 _) h (fun s h => fo_sI (h0 _) h (fun s h => fo_sI (h0 _) h (fun s h => fo_sI (h0 _) h (fun s h => fo_sI (h0 _) h (fun s h => fo_sI (h7 _) h (fun s h => fo_sI (h7 _) h (fun s h => fo_sI (h7 _) h (fun s h => fo_sI (h7 _) h (fun s h => fo_sI (h8 _).1 h (fun s h => fo_sI (h0 _) h (fun s h => fo_sI (h0 _) h (fun s h => fo_sI (h0 _) h (fun s h => fo_some1 h)))))))))))))))
  unfold f_X5_read
  exact fb_bnd cl (fun s2 h2 => fo_sI h69 h2 (fun s3 h3 => fb_bnd (fb_lift (w_X8_rewind s3) (wsub_trans (by decide) hs) h3) (fun s5 h5 => lp FU 0 s5 h5)))
end W5
