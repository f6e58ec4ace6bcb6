/-! One call of both, upon one heap: first the class's, then the reference's -/
def RE (u : HS) : Prop := ∃ p d c h n, Rel p d c h n u u
section STEP
variable {p d c h n : Nat}
theorem step2 {F G : HS → Option (Int32 × HS)} {L M : List (Nat × Nat)} (st : ∀ {p d c h n : Nat} {s t : HS}, Rel p d c h n s t → ∃ x s' t', F s = some (x, s') ∧ G t = some (x, t') ∧ Rel p d c h n s' t') (fF : ∀ s, FX Prod.snd L s (F s)) (fG : ∀ s, FX Prod.snd M s (G s)) (a2 : avR2 L = true) (a1 : avR1 2 M = true ∧ avR1 38 M = true) {u : HS} (E : RE u) :
    ∃ x s' t', F u = some (x, s') ∧ G s' = some (x, t') ∧ RE t' := by
  obtain ⟨p, d, c, h, n, R⟩ := E
  have okp := okX4_c R.2.1.1
  obtain ⟨x, s', t1, e1, e2, R1⟩ := st R
  have f1 : Fr L u s' := fF u _ e1
  have R2 : Rel p d c h n u s' := R.fr (L := []) Fr.refl f1 (avR_play p okp).2 a2
  obtain ⟨x2, s2, t', d1, d2, R3⟩ := st R2
  rw [e1] at d1
  obtain ⟨rfl, rfl⟩ := Prod.mk.inj (Option.some.inj d1)
  have g1 : Fr M s' t' := fG s' _ d2
  refine ⟨x, s', t', e1, d2, p, d, c, h, n, R3.fr g1 (Fr.refl (L := [])) ?_ (by decide)⟩
  rcases okp with rfl | rfl
  · exact a1.1
  · exact a1.2
theorem step1 {F : HS → Option Int32} {G : HS → Option (Int32 × HS)} {M : List (Nat × Nat)} (st : ∀ {p d c h n : Nat} {s t : HS}, Rel p d c h n s t → ∃ x t', F s = some x ∧ G t = some (x, t') ∧ Rel p d c h n s t') (fG : ∀ s, FX Prod.snd M s (G s)) (a1 : avR1 2 M = true ∧ avR1 38 M = true) {u : HS} (E : RE u) :
    ∃ x t', F u = some x ∧ G u = some (x, t') ∧ RE t' := by
  obtain ⟨p, d, c, h, n, R⟩ := E
  have okp := okX4_c R.2.1.1
  obtain ⟨x, t', e1, e2, R1⟩ := st R
  have g1 : Fr M u t' := fG u _ e2
  refine ⟨x, t', e1, e2, p, d, c, h, n, R1.fr g1 (Fr.refl (L := [])) ?_ (by decide)⟩
  rcases okp with rfl | rfl
  · exact a1.1
  · exact a1.2
theorem re_0 : RE s_0 := ⟨38, 2, 0, 0, 0, rel_00⟩

theorem law_round {u0 : HS} (E : RE u0) (v : Int32) : ∃ x s' t', f_X11_round v u0 = some (x, s') ∧ f_X12_round v s' = some (x, t') ∧ RE t' :=
  step2 (F := fun s => f_X11_round v s) (G := fun s => f_X12_round v s) (fun R => st_round R v ) (fun s => w_X11_round v s) (fun s => w_X12_round v s) (by decide +kernel) (by decide +kernel) E
theorem law_served {u0 : HS} (E : RE u0) (v w : Int32) : ∃ x s' t', f_X11_served v w u0 = some (x, s') ∧ f_X12_served v w s' = some (x, t') ∧ RE t' :=
  step2 (F := fun s => f_X11_served v w s) (G := fun s => f_X12_served v w s) (fun R => st_served R v w ) (fun s => w_X11_served v w s) (fun s => w_X12_served v w s) (by decide +kernel) (by decide +kernel) E
theorem law_was {u0 : HS} (E : RE u0) : ∃ x s' t', f_X11_was u0 = some (x, s') ∧ f_X12_was s' = some (x, t') ∧ RE t' :=
  step2 (F := fun s => f_X11_was s) (G := fun s => f_X12_was s) (fun R => st_was R ) (fun s => w_X11_was s) (fun s => w_X12_was s) (by decide +kernel) (by decide +kernel) E
theorem law_stand {u0 : HS} (E : RE u0) : ∃ x s' t', f_X11_stand u0 = some (x, s') ∧ f_X12_stand s' = some (x, t') ∧ RE t' :=
  step2 (F := fun s => f_X11_stand s) (G := fun s => f_X12_stand s) (fun R => st_stand R ) (fun s => w_X11_stand s) (fun s => w_X12_stand s) (by decide +kernel) (by decide +kernel) E
theorem law_ring {u0 : HS} (E : RE u0) : ∃ x s' t', f_X11_ring u0 = some (x, s') ∧ f_X12_ring s' = some (x, t') ∧ RE t' :=
  step2 (F := fun s => f_X11_ring s) (G := fun s => f_X12_ring s) (fun R => st_ring R ) (fun s => w_X11_ring s) (fun s => w_X12_ring s) (by decide +kernel) (by decide +kernel) E
theorem law_best {u0 : HS} (E : RE u0) (v w : Int32) : ∃ x s' t', f_X11_best v w u0 = some (x, s') ∧ f_X12_best v w s' = some (x, t') ∧ RE t' :=
  step2 (F := fun s => f_X11_best v w s) (G := fun s => f_X12_best v w s) (fun R => st_best R v w ) (fun s => w_X11_best v w s) (fun s => w_X12_best v w s) (by decide +kernel) (by decide +kernel) E
theorem law_table {u0 : HS} (E : RE u0) (v w : Int32) : ∃ x s' t', f_X11_table v w u0 = some (x, s') ∧ f_X12_table v w s' = some (x, t') ∧ RE t' :=
  step2 (F := fun s => f_X11_table v w s) (G := fun s => f_X12_table v w s) (fun R => st_table R v w ) (fun s => w_X11_table v w s) (fun s => w_X12_table v w s) (by decide +kernel) (by decide +kernel) E
theorem law_ahead {u0 : HS} (E : RE u0) (v w : Int32) : ∃ x s' t', f_X11_ahead v w u0 = some (x, s') ∧ f_X12_ahead v w s' = some (x, t') ∧ RE t' :=
  step2 (F := fun s => f_X11_ahead v w s) (G := fun s => f_X12_ahead v w s) (fun R => st_ahead R v w ) (fun s => w_X11_ahead v w s) (fun s => w_X12_ahead v w s) (by decide +kernel) (by decide +kernel) E
theorem law_most {u0 : HS} (E : RE u0) (v : Int32) : ∃ x s' t', f_X11_most v u0 = some (x, s') ∧ f_X12_most v s' = some (x, t') ∧ RE t' :=
  step2 (F := fun s => f_X11_most v s) (G := fun s => f_X12_most v s) (fun R => st_most R v ) (fun s => w_X11_most v s) (fun s => w_X12_most v s) (by decide +kernel) (by decide +kernel) E
theorem law_errand {u0 : HS} (E : RE u0) (v w : Int32) : ∃ x s' t', f_X11_errand v w u0 = some (x, s') ∧ f_X12_errand v w s' = some (x, t') ∧ RE t' :=
  step2 (F := fun s => f_X11_errand v w s) (G := fun s => f_X12_errand v w s) (fun R => st_errand R v w ) (fun s => w_X11_errand v w s) (fun s => w_X12_errand v w s) (by decide +kernel) (by decide +kernel) E
theorem law_years {u0 : HS} (E : RE u0) (v w u : Int32) : ∃ x s' t', f_X11_years v w u u0 = some (x, s') ∧ f_X12_years v w u s' = some (x, t') ∧ RE t' :=
  step2 (F := fun s => f_X11_years v w u s) (G := fun s => f_X12_years v w u s) (fun R => st_years R v w u ) (fun s => w_X11_years v w u s) (fun s => w_X12_years v w u s) (by decide +kernel) (by decide +kernel) E
theorem law_chance {u0 : HS} (E : RE u0) (v : Int32) : ∃ x s' t', f_X11_chance v u0 = some (x, s') ∧ f_X12_chance v s' = some (x, t') ∧ RE t' :=
  step2 (F := fun s => f_X11_chance v s) (G := fun s => f_X12_chance v s) (fun R => st_chance R v ) (fun s => w_X11_chance v s) (fun s => w_X12_chance v s) (by decide +kernel) (by decide +kernel) E
theorem law_set {u0 : HS} (E : RE u0) (v w : Int32) : ∃ x s' t', f_X11_set v w u0 = some (x, s') ∧ f_X12_set v w s' = some (x, t') ∧ RE t' :=
  step2 (F := fun s => f_X11_set v w s) (G := fun s => f_X12_set v w s) (fun R => st_set R v w ) (fun s => w_X11_set v w s) (fun s => w_X12_set v w s) (by decide +kernel) (by decide +kernel) E
theorem law_heats {u0 : HS} (E : RE u0) (v w : Int32) : ∃ x s' t', f_X11_heats v w u0 = some (x, s') ∧ f_X12_heats v w s' = some (x, t') ∧ RE t' :=
  step2 (F := fun s => f_X11_heats v w s) (G := fun s => f_X12_heats v w s) (fun R => st_heats R v w ) (fun s => w_X11_heats v w s) (fun s => w_X12_heats v w s) (by decide +kernel) (by decide +kernel) E
theorem law_out {u0 : HS} (E : RE u0) (v w : Int32) : ∃ x s' t', f_X11_out v w u0 = some (x, s') ∧ f_X12_out v w s' = some (x, t') ∧ RE t' :=
  step2 (F := fun s => f_X11_out v w s) (G := fun s => f_X12_out v w s) (fun R => st_out R v w ) (fun s => w_X11_out v w s) (fun s => w_X12_out v w s) (by decide +kernel) (by decide +kernel) E
theorem law_undo {u0 : HS} (E : RE u0) : ∃ x s' t', f_X11_undo u0 = some (x, s') ∧ f_X12_undo s' = some (x, t') ∧ RE t' :=
  step2 (F := fun s => f_X11_undo s) (G := fun s => f_X12_undo s) (fun R => st_undo R ) (fun s => w_X11_undo s) (fun s => w_X12_undo s) (by decide +kernel) (by decide +kernel) E
theorem law_sell {u0 : HS} (E : RE u0) (v w : Int32) : ∃ x s' t', f_X11_sell v w u0 = some (x, s') ∧ f_X12_sell v w s' = some (x, t') ∧ RE t' :=
  step2 (F := fun s => f_X11_sell v w s) (G := fun s => f_X12_sell v w s) (fun R => st_sell R v w ) (fun s => w_X11_sell v w s) (fun s => w_X12_sell v w s) (by decide +kernel) (by decide +kernel) E
theorem law_see {u0 : HS} (E : RE u0) (v w : Int32) : ∃ x s' t', f_X11_see v w u0 = some (x, s') ∧ f_X12_see v w s' = some (x, t') ∧ RE t' :=
  step2 (F := fun s => f_X11_see v w s) (G := fun s => f_X12_see v w s) (fun R => st_see R v w ) (fun s => w_X11_see v w s) (fun s => w_X12_see v w s) (by decide +kernel) (by decide +kernel) E
theorem law_judged {u0 : HS} (E : RE u0) (v : Int32) : ∃ x s' t', f_X11_judged v u0 = some (x, s') ∧ f_X12_judged v s' = some (x, t') ∧ RE t' :=
  step2 (F := fun s => f_X11_judged v s) (G := fun s => f_X12_judged v s) (fun R => st_judged R v ) (fun s => w_X11_judged v s) (fun s => w_X12_judged v s) (by decide +kernel) (by decide +kernel) E
theorem law_feed {u0 : HS} (E : RE u0) (v1 v3 v5 : Int64) : ∃ x s' t', f_X11_feed v1 v3 v5 u0 = some (x, s') ∧ f_X12_feed v1 v3 v5 s' = some (x, t') ∧ RE t' :=
  step2 (F := fun s => f_X11_feed v1 v3 v5 s) (G := fun s => f_X12_feed v1 v3 v5 s) (fun R => st_feed R v1 v3 v5 ) (fun s => w_X11_feed v1 v3 v5 s) (fun s => w_X12_feed v1 v3 v5 s) (by decide +kernel) (by decide +kernel) E
theorem law_tray {u0 : HS} (E : RE u0) (v w : Int32) : ∃ x t', f_X11_tray v w u0 = some x ∧ f_X12_tray v w u0 = some (x, t') ∧ RE t' :=
  step1 (F := fun s => f_X11_tray v w s) (G := fun s => f_X12_tray v w s) (fun R => st_tray R v w ) (fun s => w_X12_tray v w s) (by decide +kernel) E
theorem law_price {u0 : HS} (E : RE u0) (v : Int32) : ∃ x t', f_X11_price v u0 = some x ∧ f_X12_price v u0 = some (x, t') ∧ RE t' :=
  step1 (F := fun s => f_X11_price v s) (G := fun s => f_X12_price v s) (fun R => st_price R v ) (fun s => w_X12_price v s) (by decide +kernel) E
theorem law_laws {u0 : HS} (E : RE u0) (v : Int32) : ∃ x t', f_X11_laws v u0 = some x ∧ f_X12_laws v u0 = some (x, t') ∧ RE t' :=
  step1 (F := fun s => f_X11_laws v s) (G := fun s => f_X12_laws v s) (fun R => st_laws R v ) (fun s => w_X12_laws v s) (by decide +kernel) E
theorem law_thing {u0 : HS} (E : RE u0) (v w : Int32) : ∃ x t', f_X11_thing v w u0 = some x ∧ f_X12_thing v w u0 = some (x, t') ∧ RE t' :=
  step1 (F := fun s => f_X11_thing v w s) (G := fun s => f_X12_thing v w s) (fun R => st_thing R v w ) (fun s => w_X12_thing v w s) (by decide +kernel) E
theorem law_buyer {u0 : HS} (E : RE u0) (v w : Int32) : ∃ x t', f_X11_buyer v w u0 = some x ∧ f_X12_buyer v w u0 = some (x, t') ∧ RE t' :=
  step1 (F := fun s => f_X11_buyer v w s) (G := fun s => f_X12_buyer v w s) (fun R => st_buyer R v w ) (fun s => w_X12_buyer v w s) (by decide +kernel) E
theorem law_count {u0 : HS} (E : RE u0) (w : Int32) : ∃ x t', f_X11_count w u0 = some x ∧ f_X12_count w u0 = some (x, t') ∧ RE t' :=
  step1 (F := fun s => f_X11_count w s) (G := fun s => f_X12_count w s) (fun R => st_count R w ) (fun s => w_X12_count w s) (by decide +kernel) E
end STEP
