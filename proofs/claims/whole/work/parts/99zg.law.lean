/-! The last two calls, upon one heap -/
theorem law_days {u0 : HS} (E : RE u0) : ∃ x s' t', f_X11_days u0 = some (x, s') ∧ f_X12_days s' = some (x, t') ∧ RE t' :=
  step2 (F := fun s => f_X11_days s) (G := fun s => f_X12_days s) (fun R => st_days R) (fun s => w_X11_days s) (fun s => w_X12_days s) (by decide +kernel) (by decide +kernel) E
def LJc : List (Nat × Nat) := LF1 ++ ([(36, 2), (69, 3), (0, 2), (0, 3), (1, 11), (64, 0), (65, 0), (81, 12), (86, 12), (91, 12), (96, 12)] ++ ((List.range 26).map (fun k => (2 + k, 0)) ++ (List.range 26).map (fun k => (38 + k, 0))))
theorem wm_mono {L M : List (Nat × Nat)} (h : wsub L M = true) {o k : Nat} (hk : wm L o k = true) : wm M o k = true := by
  cases q : wm M o k with
  | true => rfl
  | false => rw [wm_sub h q] at hk; cases hk
theorem LJ_sub {p : Nat} (hp : okX4 p = true) : wsub (LPd p) LJc = true := by rcases okX4_c hp with rfl | rfl <;> decide +kernel
theorem HB_J {p : Nat} (hp : okX4 p = true) : HBq p LJc := by
  have s := LJ_sub hp
  obtain ⟨h0, h7, h8, h10, h11, h13, h15, h69, h36, hs⟩ := HB_of hp
  exact ⟨fun k => wm_mono s (h0 k), fun k => wm_mono s (h7 k), fun k => ⟨wm_mono s (h8 k).1, wm_mono s (h8 k).2⟩, fun k => wm_mono s (h10 k), fun k => wm_mono s (h11 k), fun i hi k => wm_mono s (h13 i hi k), fun i hi k => ⟨wm_mono s (h15 i hi k).1, wm_mono s (h15 i hi k).2⟩, wm_mono s h69, wsub_trans h36 s, wsub_trans hs s⟩
theorem fo_q1 {β : Type} {π : β → HS} {L : List (Nat × Nat)} {s0 s : HS} {q : Nat} {f : HS → Option β} (hw : wm L 0 1 = true) (h0 : Fr L s0 s) (h : ∀ s', Fr L s0 s' → FX π L s0 (f s')) : FX π L s0 (ltb (sQ1 s q) f) := h _ (h0.trans ⟨fun _ _ _ => rfl, fun _ _ _ => rfl, fun z => (by rw [hw] at z; cases z), fun _ => rfl, fun _ => rfl, fun _ => rfl, fun _ => rfl⟩)
theorem fo_q2 {β : Type} {π : β → HS} {L : List (Nat × Nat)} {s0 s : HS} {q : Nat} {f : HS → Option β} (hw : wm L 0 2 = true) (h0 : Fr L s0 s) (h : ∀ s', Fr L s0 s' → FX π L s0 (f s')) : FX π L s0 (ltb (sQ2 s q) f) := h _ (h0.trans ⟨fun _ _ _ => rfl, fun _ _ _ => rfl, fun _ => rfl, fun z => (by rw [hw] at z; cases z), fun _ => rfl, fun _ => rfl, fun _ => rfl⟩)
theorem w_junction (s : HS) : FX Prod.snd LJc s (f_X11_junction s) := by
  have lp : ∀ v1 f v3 s', Fr LJc s s' → FX Prod.snd LJc s (f_X11_junction_l59 v1 f v3 s') := by
    intro v1 f
    induction f with
    | zero => intro v3 s' _; exact fo_none
    | succ f ih =>
      intro v3 s' h
      show FX Prod.snd LJc s (f_X11_junction_l59b v1 v3 _ s')
      unfold f_X11_junction_l59b
      refine fo_ite (fo_some2 h) (fo_gdh (fun hi => fo_sI ?_ h (fun s2 h2 => fo_ltI (fun y => ih y s2 h2))))
      exact (show ∀ i, i < 4 → wm LJc (Rf 33 i) 11 = true by decide +kernel) _ (inb_lt hi)
  unfold f_X11_junction
  refine fo_gdh (fun hd => fb_bnd2 (b_read (HB_J hd) Fr.refl) (fun y s3 h3 => fo_ite (fo_gd (fb_ltN (fo_gd (fo_q1 (by decide +kernel) h3 (fun s8 h8 => fo_q2 (by decide +kernel) h8 (fun s9 h9 => fo_gd (fb_bnd (fb_lift (w_X7_startWith 64 _ _) (by decide +kernel) h9) (fun s12 h12 => fb_bnd (fb_lift (w_X7_forget 64 _) (by decide +kernel) h12) (fun s14 h14 => fo_sI (by decide +kernel) h14 (fun s15 h15 => lp _ _ _ s15 h15)))))))))) (fo_some2 h3)))
theorem law_junction {u0 : HS} (E : RE u0) : ∃ x s' t', f_X11_junction u0 = some (x, s') ∧ f_X12_junction s' = some (x, t') ∧ RE t' := by
  obtain ⟨p, d, c, h, n, R⟩ := E
  have okp := okX4_c R.2.1.1
  obtain ⟨x, s', t1, p1, d1, c1, h1, n1, e1, e2, R1⟩ := st_junction R
  have f1 : Fr LJc u0 s' := w_junction u0 _ e1
  have R2 : Rel p d c h n u0 s' := R.fr (L := []) Fr.refl f1 (avR_play p okp).2 (by decide +kernel)
  obtain ⟨x2, s2, t', p2, d2, c2, h2, n2, a1, a2, R3⟩ := st_junction R2
  rw [e1] at a1
  obtain ⟨rfl, rfl⟩ := Prod.mk.inj (Option.some.inj a1)
  have g1 : Fr L_X12_junction s' t' := w_X12_junction s' _ a2
  refine ⟨x, s', t', e1, a2, p2, d2, c2, h2, n2, R3.fr g1 (Fr.refl (L := [])) ?_ (by decide)⟩
  rcases okX4_c R3.2.1.1 with rfl | rfl <;> decide +kernel
