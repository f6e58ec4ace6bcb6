/-! Frames: what a function may write, as a list of (object, 0) for the whole object, (object, slot + 1), (0, j) for the j-th reference -/
def wm (L : List (Nat × Nat)) (o k : Nat) : Bool := L.any (fun q => q.1 == o && (q.2 == 0 || q.2 == k + 1))
def wsub (L M : List (Nat × Nat)) : Bool := L.all (fun q => M.any (fun r => r.1 == q.1 && (r.2 == 0 || r.2 == q.2)))
def Fr (L : List (Nat × Nat)) (s t : HS) : Prop :=
  (∀ o k, wm L o k = false → t.1 o k = s.1 o k) ∧ (∀ o k, wm L o k = false → t.2.1 o k = s.2.1 o k) ∧ (wm L 0 1 = false → t.2.2.1 = s.2.2.1) ∧ (wm L 0 2 = false → t.2.2.2.1 = s.2.2.2.1) ∧ (wm L 0 3 = false → t.2.2.2.2.1 = s.2.2.2.2.1) ∧ (wm L 0 4 = false → t.2.2.2.2.2.1 = s.2.2.2.2.2.1) ∧ (wm L 0 5 = false → t.2.2.2.2.2.2 = s.2.2.2.2.2.2)
theorem Fr.refl {L : List (Nat × Nat)} {s : HS} : Fr L s s := ⟨fun _ _ _ => rfl, fun _ _ _ => rfl, fun _ => rfl, fun _ => rfl, fun _ => rfl, fun _ => rfl, fun _ => rfl⟩
theorem Fr.trans {L : List (Nat × Nat)} {a b c : HS} (h : Fr L a b) (g : Fr L b c) : Fr L a c :=
  ⟨fun o k q => (g.1 o k q).trans (h.1 o k q), fun o k q => (g.2.1 o k q).trans (h.2.1 o k q), fun q => (g.2.2.1 q).trans (h.2.2.1 q), fun q => (g.2.2.2.1 q).trans (h.2.2.2.1 q), fun q => (g.2.2.2.2.1 q).trans (h.2.2.2.2.1 q), fun q => (g.2.2.2.2.2.1 q).trans (h.2.2.2.2.2.1 q), fun q => (g.2.2.2.2.2.2 q).trans (h.2.2.2.2.2.2 q)⟩
theorem wm_sub {L M : List (Nat × Nat)} (h : wsub L M = true) {o k : Nat} (hk : wm M o k = false) : wm L o k = false := by
  cases hq : wm L o k with
  | false => rfl
  | true =>
    unfold wm at hq
    obtain ⟨q, hq1, hq2⟩ := List.any_eq_true.mp hq
    have h1 := List.all_eq_true.mp h q hq1
    obtain ⟨r, hr1, hr2⟩ := List.any_eq_true.mp h1
    simp only [Bool.and_eq_true, Bool.or_eq_true, beq_iff_eq] at hq2 hr2
    have : wm M o k = true := by
      unfold wm
      refine List.any_eq_true.mpr ⟨r, hr1, ?_⟩
      simp only [Bool.and_eq_true, Bool.or_eq_true, beq_iff_eq]
      refine ⟨hr2.1.trans hq2.1, ?_⟩
      rcases hr2.2 with z | z
      · exact Or.inl z
      · rcases hq2.2 with y | y
        · exact Or.inl (z.trans y)
        · exact Or.inr (z.trans y)
    rw [this] at hk
    cases hk
theorem Fr.mono {L M : List (Nat × Nat)} {a b : HS} (h : Fr L a b) (hs : wsub L M = true) : Fr M a b :=
  ⟨fun o k q => h.1 o k (wm_sub hs q), fun o k q => h.2.1 o k (wm_sub hs q), fun q => h.2.2.1 (wm_sub hs q), fun q => h.2.2.2.1 (wm_sub hs q), fun q => h.2.2.2.2.1 (wm_sub hs q), fun q => h.2.2.2.2.2.1 (wm_sub hs q), fun q => h.2.2.2.2.2.2 (wm_sub hs q)⟩
/-- an object that isn't written at all -/
def wo (L : List (Nat × Nat)) (o : Nat) : Bool := L.any (fun q => q.1 == o)
theorem wo_m {L : List (Nat × Nat)} {o : Nat} (h : wo L o = false) (k : Nat) : wm L o k = false := by
  cases hq : wm L o k with
  | false => rfl
  | true =>
    obtain ⟨q, hq1, hq2⟩ := List.any_eq_true.mp hq
    simp only [Bool.and_eq_true, beq_iff_eq] at hq2
    have : wo L o = true := List.any_eq_true.mpr ⟨q, hq1, by simp [hq2.1]⟩
    rw [this] at h
    cases h
theorem Fr.o {L : List (Nat × Nat)} {s t : HS} (h : Fr L s t) {o : Nat} (q : wo L o = false) : t.1 o = s.1 o := funext fun k => h.1 o k (wo_m q k)
theorem Fr.l {L : List (Nat × Nat)} {s t : HS} (h : Fr L s t) {o : Nat} (q : wo L o = false) : t.2.1 o = s.2.1 o := funext fun k => h.2.1 o k (wo_m q k)
theorem fr_sI {L : List (Nat × Nat)} {s : HS} {o k : Nat} {x : Int32} (h : wm L o k = true) : Fr L s (sI s o k x) := by
  refine ⟨fun o' k' q => ?_, fun _ _ _ => rfl, fun _ => rfl, fun _ => rfl, fun _ => rfl, fun _ => rfl, fun _ => rfl⟩
  show up2 s.1 o k x o' k' = s.1 o' k'
  unfold up2
  split
  · rename_i e1
    split
    · rename_i e2
      subst e1; subst e2
      rw [h] at q; cases q
    · rfl
  · rfl
theorem fr_sL {L : List (Nat × Nat)} {s : HS} {o k : Nat} {x : Int64} (h : wm L o k = true) : Fr L s (sL s o k x) := by
  refine ⟨fun _ _ _ => rfl, fun o' k' q => ?_, fun _ => rfl, fun _ => rfl, fun _ => rfl, fun _ => rfl, fun _ => rfl⟩
  show up2 s.2.1 o k x o' k' = s.2.1 o' k'
  unfold up2
  split
  · rename_i e1
    split
    · rename_i e2
      subst e1; subst e2
      rw [h] at q; cases q
    · rfl
  · rfl
theorem wm_all {L : List (Nat × Nat)} {o : Nat} (h : L.any (fun q => q.1 == o && q.2 == 0) = true) (k : Nat) : wm L o k = true := by
  obtain ⟨q, hq1, hq2⟩ := List.any_eq_true.mp h
  simp only [Bool.and_eq_true, beq_iff_eq] at hq2
  exact List.any_eq_true.mpr ⟨q, hq1, by simp [hq2.1, hq2.2]⟩
theorem fr_sA {L : List (Nat × Nat)} {s : HS} {o : Nat} {f : Nat → Int32} (h : L.any (fun q => q.1 == o && q.2 == 0) = true) : Fr L s (sA s o f) := by
  refine ⟨fun o' k' q => ?_, fun _ _ _ => rfl, fun _ => rfl, fun _ => rfl, fun _ => rfl, fun _ => rfl, fun _ => rfl⟩
  show (if o' = o then f else s.1 o') k' = s.1 o' k'
  split
  · rename_i e1
    subst e1
    rw [wm_all h k'] at q; cases q
  · rfl
def FX {β : Type} (π : β → HS) (L : List (Nat × Nat)) (s0 : HS) (x : Option β) : Prop := ∀ r, x = some r → Fr L s0 (π r)
section FO
variable {β : Type} {π : β → HS} {L : List (Nat × Nat)} {s0 : HS}
theorem fo_none : FX π L s0 none := fun _ h => nomatch h
theorem fo_some {r : β} (h : Fr L s0 (π r)) : FX π L s0 (some r) := fun r' e => by cases e; exact h
theorem fo_gd {b : Bool} {x : Option β} (h : FX π L s0 x) : FX π L s0 (gd b x) := fun r e => h r (gd_some e).2
theorem fo_gdh {b : Bool} {x : Option β} (h : b = true → FX π L s0 x) : FX π L s0 (gd b x) := fun r e => h (gd_some e).1 r (gd_some e).2
theorem fo_ite {c : Prop} [Decidable c] {a b : Option β} (h : FX π L s0 a) (g : FX π L s0 b) : FX π L s0 (if c then a else b) := by
  split
  · exact h
  · exact g
theorem fo_ltI {x : Int32} {f : Int32 → Option β} (h : ∀ y, FX π L s0 (f y)) : FX π L s0 (ltb x f) := h x
theorem fo_ltL {x : Int64} {f : Int64 → Option β} (h : ∀ y, FX π L s0 (f y)) : FX π L s0 (ltb x f) := h x
theorem fo_ltN {x : Nat} {f : Nat → Option β} (h : ∀ y, FX π L s0 (f y)) : FX π L s0 (ltb x f) := h x
theorem fo_bndv {x : Option Int32} {f : Int32 → Option β} (h : ∀ y, FX π L s0 (f y)) : FX π L s0 (bnd x f) := fun r e => by
  obtain ⟨y, -, e⟩ := bnd_s e
  exact h y r e
theorem fo_bndl {x : Option Int64} {f : Int64 → Option β} (h : ∀ y, FX π L s0 (f y)) : FX π L s0 (bnd x f) := fun r e => by
  obtain ⟨y, -, e⟩ := bnd_s e
  exact h y r e
theorem fo_sI {s : HS} {o k : Nat} {x : Int32} {f : HS → Option β} (hw : wm L o k = true) (h0 : Fr L s0 s) (h : ∀ s', Fr L s0 s' → FX π L s0 (f s')) : FX π L s0 (ltb (sI s o k x) f) := h _ (h0.trans (fr_sI hw))
theorem fo_sIa {s : HS} {o k : Nat} {x : Int32} {f : HS → Option β} (hw : L.any (fun q => q.1 == o && q.2 == 0) = true) (h0 : Fr L s0 s) (h : ∀ s', Fr L s0 s' → FX π L s0 (f s')) : FX π L s0 (ltb (sI s o k x) f) := h _ (h0.trans (fr_sI (wm_all hw k)))
theorem fo_sL {s : HS} {o k : Nat} {x : Int64} {f : HS → Option β} (hw : wm L o k = true) (h0 : Fr L s0 s) (h : ∀ s', Fr L s0 s' → FX π L s0 (f s')) : FX π L s0 (ltb (sL s o k x) f) := h _ (h0.trans (fr_sL hw))
theorem fo_sLa {s : HS} {o k : Nat} {x : Int64} {f : HS → Option β} (hw : L.any (fun q => q.1 == o && q.2 == 0) = true) (h0 : Fr L s0 s) (h : ∀ s', Fr L s0 s' → FX π L s0 (f s')) : FX π L s0 (ltb (sL s o k x) f) := h _ (h0.trans (fr_sL (wm_all hw k)))
theorem fo_sA {s : HS} {o : Nat} {g : Nat → Int32} {f : HS → Option β} (hw : L.any (fun q => q.1 == o && q.2 == 0) = true) (h0 : Fr L s0 s) (h : ∀ s', Fr L s0 s' → FX π L s0 (f s')) : FX π L s0 (ltb (sA s o g) f) := h _ (h0.trans (fr_sA hw))
theorem fo_q3 {s : HS} {q : Nat} {f : HS → Option β} (hw : wm L 0 3 = true) (h0 : Fr L s0 s) (h : ∀ s', Fr L s0 s' → FX π L s0 (f s')) : FX π L s0 (ltb (sQ3 s q) f) := h _ (h0.trans ⟨fun _ _ _ => rfl, fun _ _ _ => rfl, fun _ => rfl, fun _ => rfl, fun z => by rw [hw] at z; cases z, fun _ => rfl, fun _ => rfl⟩)
theorem fo_q4 {s : HS} {q : Nat} {f : HS → Option β} (hw : wm L 0 4 = true) (h0 : Fr L s0 s) (h : ∀ s', Fr L s0 s' → FX π L s0 (f s')) : FX π L s0 (ltb (sQ4 s q) f) := h _ (h0.trans ⟨fun _ _ _ => rfl, fun _ _ _ => rfl, fun _ => rfl, fun _ => rfl, fun _ => rfl, fun z => by rw [hw] at z; cases z, fun _ => rfl⟩)
theorem fo_q5 {s : HS} {q : Nat} {f : HS → Option β} (hw : wm L 0 5 = true) (h0 : Fr L s0 s) (h : ∀ s', Fr L s0 s' → FX π L s0 (f s')) : FX π L s0 (ltb (sQ5 s q) f) := h _ (h0.trans ⟨fun _ _ _ => rfl, fun _ _ _ => rfl, fun _ => rfl, fun _ => rfl, fun _ => rfl, fun _ => rfl, fun z => by rw [hw] at z; cases z⟩)
theorem fo_bnd {M : List (Nat × Nat)} {s : HS} {x : Option HS} {f : HS → Option β} (hx : FX id M s x) (hs : wsub M L = true) (h0 : Fr L s0 s) (h : ∀ s', Fr L s0 s' → FX π L s0 (f s')) : FX π L s0 (bnd x f) := fun r e => by
  obtain ⟨y, e1, e2⟩ := bnd_s e
  exact h y (h0.trans ((hx y e1).mono hs)) r e2
theorem fo_bnd2 {γ : Type} {M : List (Nat × Nat)} {s : HS} {x : Option (γ × HS)} {f : γ → HS → Option β} (hx : FX Prod.snd M s x) (hs : wsub M L = true) (h0 : Fr L s0 s) (h : ∀ y s', Fr L s0 s' → FX π L s0 (f y s')) : FX π L s0 (bnd2 x f) := fun r e => by
  obtain ⟨y, z, e1, e2⟩ := bnd2_s e
  exact h y z (h0.trans ((hx (y, z) e1).mono hs)) r e2
end FO
def L_X8_stepNumber : List (Nat × Nat) := [(36, 4), (36, 5), (36, 7)]
def L_X8_stepWord : List (Nat × Nat) := [(0, 6), (36, 4), (36, 5), (36, 6)]
def L_X8_step : List (Nat × Nat) := [(0, 6), (36, 3), (36, 4), (36, 5), (36, 6), (36, 7), (36, 8)]
def L_X8_rewind : List (Nat × Nat) := [(0, 6), (36, 3), (36, 4), (36, 5), (36, 6), (36, 7), (36, 8), (36, 10)]
def L_X8_finish : List (Nat × Nat) := [(36, 2)]
def L_X1_keepLine : List (Nat × Nat) := [(71, 3), (72, 0)]
def L_X8_fail : List (Nat × Nat) := [(0, 6), (36, 5), (36, 10)]
def L_X8_takeSign : List (Nat × Nat) := [(0, 6), (36, 3), (36, 4), (36, 5), (36, 6), (36, 7), (36, 8), (36, 10)]
def L_X8_takeNumber : List (Nat × Nat) := [(0, 6), (36, 3), (36, 4), (36, 5), (36, 6), (36, 7), (36, 8), (36, 10)]
def L_X8_takeKnown : List (Nat × Nat) := [(0, 6), (36, 3), (36, 4), (36, 5), (36, 6), (36, 7), (36, 8), (36, 10)]
def L_X1_readLine : List (Nat × Nat) := [(0, 6), (36, 3), (36, 4), (36, 5), (36, 6), (36, 7), (36, 8), (36, 10), (71, 3), (72, 0)]
def L_X1_read : List (Nat × Nat) := [(0, 6), (36, 2), (36, 3), (36, 4), (36, 5), (36, 6), (36, 7), (36, 8), (36, 10), (71, 3), (72, 0)]
def L_X2_value (p : Nat) : List (Nat × Nat) := [((Rf p 2), 0)]
def L_X8_take : List (Nat × Nat) := [(0, 6), (36, 3), (36, 4), (36, 5), (36, 6), (36, 7), (36, 8), (36, 10)]
def L_X8_takeOneOf : List (Nat × Nat) := [(0, 6), (36, 3), (36, 4), (36, 5), (36, 6), (36, 7), (36, 8), (36, 10)]
def L_X6_layOut : List (Nat × Nat) := [(0, 4), (0, 5), (73, 3), (73, 4), (73, 5), (73, 6), (73, 7), (73, 8)]
def L_X6_makeReady : List (Nat × Nat) := [(73, 16), (73, 17), (74, 0), (75, 0), (76, 0), (77, 0), (78, 0), (79, 0), (80, 0)]
def L_X6_rankOf : List (Nat × Nat) := [(6, 0), (42, 0)]
def L_X6_nextServed : List (Nat × Nat) := [(6, 0), (42, 0)]
def L_X6_begin : List (Nat × Nat) := [(73, 7), (73, 17), (76, 0), (77, 0)]
def L_X6_serveWaiting : List (Nat × Nat) := [(6, 0), (42, 0), (73, 7), (73, 17), (76, 0), (77, 0), (80, 0)]
def L_X6_drink : List (Nat × Nat) := [(78, 0), (79, 0)]
def L_X6_endFor : List (Nat × Nat) := [(73, 16), (78, 0), (79, 0)]
def L_X6_play : List (Nat × Nat) := [(6, 0), (42, 0), (73, 7), (73, 16), (73, 17), (74, 0), (75, 0), (76, 0), (77, 0), (78, 0), (79, 0), (80, 0)]
def L_X7_startWith (p : Nat) : List (Nat × Nat) := [((Rf p 4), 0), (p, 1), (p, 2), (p, 3), (p, 4)]
def L_X7_forget (p : Nat) : List (Nat × Nat) := [(p, 7), (p, 9), (p, 11)]
def L_X7_takeLines (p : Nat) : List (Nat × Nat) := [((Rf p 5), 0), (p, 7)]
def L_X7_copyHand (p : Nat) : List (Nat × Nat) := [((Rf p 4), 0), (p, 1), (p, 2), (p, 3), (p, 4)]
def L_X7_copyAll (p : Nat) : List (Nat × Nat) := [((Rf p 4), 0), ((Rf p 5), 0), ((Rf p 7), 0), ((Rf p 9), 0), (p, 1), (p, 2), (p, 3), (p, 4), (p, 7), (p, 9), (p, 11)]
def L_X7_change (p : Nat) : List (Nat × Nat) := [((Rf p 4), 0), (p, 1), (p, 2), (p, 3), (p, 4)]
def L_X8_append : List (Nat × Nat) := [(36, 2), (37, 0)]
def L_X11_feed : List (Nat × Nat) := [(36, 2), (37, 0)]
def L_X11_days : List (Nat × Nat) := [(0, 6), (36, 2), (36, 3), (36, 4), (36, 5), (36, 6), (36, 7), (36, 8), (36, 10), (64, 7), (66, 0), (71, 3), (72, 0)]
def L_X11_changeByHand : List (Nat × Nat) := [(1, 11), (34, 0), (64, 1), (64, 2), (64, 3), (64, 4), (65, 0)]
def L_X11_out : List (Nat × Nat) := [(1, 11), (34, 0), (64, 1), (64, 2), (64, 3), (64, 4), (65, 0)]
def L_X11_set : List (Nat × Nat) := [(1, 11), (34, 0), (64, 1), (64, 2), (64, 3), (64, 4), (65, 0)]
def L_X11_heats : List (Nat × Nat) := [(1, 11), (34, 0), (64, 1), (64, 2), (64, 3), (64, 4), (65, 0)]
def L_X11_undo : List (Nat × Nat) := [(1, 11), (64, 1), (64, 2), (64, 3), (64, 4), (65, 0)]
def L_X11_playTrial : List (Nat × Nat) := [(0, 4), (0, 5), (6, 0), (42, 0), (73, 3), (73, 4), (73, 5), (73, 6), (73, 7), (73, 8), (73, 16), (73, 17), (74, 0), (75, 0), (76, 0), (77, 0), (78, 0), (79, 0), (80, 0)]
def L_X11_judged : List (Nat × Nat) := [(0, 4), (0, 5), (6, 0), (28, 1), (28, 2), (28, 3), (28, 4), (29, 0), (42, 0), (73, 3), (73, 4), (73, 5), (73, 6), (73, 7), (73, 8), (73, 16), (73, 17), (74, 0), (75, 0), (76, 0), (77, 0), (78, 0), (79, 0), (80, 0)]
def L_X11_playNow : List (Nat × Nat) := [(0, 4), (0, 5), (6, 0), (42, 0), (73, 3), (73, 4), (73, 5), (73, 6), (73, 7), (73, 8), (73, 16), (73, 17), (74, 0), (75, 0), (76, 0), (77, 0), (78, 0), (79, 0), (80, 0)]
def L_X11_served : List (Nat × Nat) := [(0, 4), (0, 5), (6, 0), (42, 0), (73, 3), (73, 4), (73, 5), (73, 6), (73, 7), (73, 8), (73, 16), (73, 17), (74, 0), (75, 0), (76, 0), (77, 0), (78, 0), (79, 0), (80, 0)]
def L_X11_round : List (Nat × Nat) := [(0, 4), (0, 5), (6, 0), (42, 0), (73, 3), (73, 4), (73, 5), (73, 6), (73, 7), (73, 8), (73, 16), (73, 17), (74, 0), (75, 0), (76, 0), (77, 0), (78, 0), (79, 0), (80, 0)]
def L_X11_chance : List (Nat × Nat) := [(0, 4), (0, 5), (6, 0), (28, 1), (28, 2), (28, 3), (28, 4), (29, 0), (42, 0), (73, 3), (73, 4), (73, 5), (73, 6), (73, 7), (73, 8), (73, 16), (73, 17), (74, 0), (75, 0), (76, 0), (77, 0), (78, 0), (79, 0), (80, 0)]
def L_X11_errandSecond : List (Nat × Nat) := [(0, 4), (0, 5), (6, 0), (28, 1), (28, 2), (28, 3), (28, 4), (29, 0), (42, 0), (73, 3), (73, 4), (73, 5), (73, 6), (73, 7), (73, 8), (73, 16), (73, 17), (74, 0), (75, 0), (76, 0), (77, 0), (78, 0), (79, 0), (80, 0)]
def L_X11_errand : List (Nat × Nat) := [(0, 4), (0, 5), (6, 0), (28, 1), (28, 2), (28, 3), (28, 4), (29, 0), (42, 0), (73, 3), (73, 4), (73, 5), (73, 6), (73, 7), (73, 8), (73, 16), (73, 17), (74, 0), (75, 0), (76, 0), (77, 0), (78, 0), (79, 0), (80, 0)]
def L_X11_table : List (Nat × Nat) := [(0, 4), (0, 5), (6, 0), (28, 1), (28, 2), (28, 3), (28, 4), (29, 0), (42, 0), (73, 3), (73, 4), (73, 5), (73, 6), (73, 7), (73, 8), (73, 16), (73, 17), (74, 0), (75, 0), (76, 0), (77, 0), (78, 0), (79, 0), (80, 0)]
def L_X11_stand : List (Nat × Nat) := [(0, 4), (0, 5), (6, 0), (28, 1), (28, 2), (28, 3), (28, 4), (29, 0), (42, 0), (73, 3), (73, 4), (73, 5), (73, 6), (73, 7), (73, 8), (73, 16), (73, 17), (74, 0), (75, 0), (76, 0), (77, 0), (78, 0), (79, 0), (80, 0)]
def L_X11_ring : List (Nat × Nat) := [(0, 4), (0, 5), (6, 0), (28, 1), (28, 2), (28, 3), (28, 4), (29, 0), (42, 0), (73, 3), (73, 4), (73, 5), (73, 6), (73, 7), (73, 8), (73, 16), (73, 17), (74, 0), (75, 0), (76, 0), (77, 0), (78, 0), (79, 0), (80, 0)]
def L_X11_best : List (Nat × Nat) := [(0, 4), (0, 5), (6, 0), (28, 1), (28, 2), (28, 3), (28, 4), (29, 0), (42, 0), (73, 3), (73, 4), (73, 5), (73, 6), (73, 7), (73, 8), (73, 16), (73, 17), (74, 0), (75, 0), (76, 0), (77, 0), (78, 0), (79, 0), (80, 0)]
def L_X11_meanAhead : List (Nat × Nat) := [(0, 4), (0, 5), (6, 0), (42, 0), (73, 3), (73, 4), (73, 5), (73, 6), (73, 7), (73, 8), (73, 16), (73, 17), (74, 0), (75, 0), (76, 0), (77, 0), (78, 0), (79, 0), (80, 0)]
def L_X11_ahead : List (Nat × Nat) := [(0, 4), (0, 5), (6, 0), (42, 0), (73, 3), (73, 4), (73, 5), (73, 6), (73, 7), (73, 8), (73, 16), (73, 17), (74, 0), (75, 0), (76, 0), (77, 0), (78, 0), (79, 0), (80, 0)]
def L_X11_most : List (Nat × Nat) := [(0, 4), (0, 5), (6, 0), (42, 0), (73, 3), (73, 4), (73, 5), (73, 6), (73, 7), (73, 8), (73, 16), (73, 17), (74, 0), (75, 0), (76, 0), (77, 0), (78, 0), (79, 0), (80, 0)]
def L_X11_sell : List (Nat × Nat) := [(64, 9), (67, 0)]
def L_X11_see : List (Nat × Nat) := [(64, 11), (68, 0)]
def L_X11_was : List (Nat × Nat) := [(0, 4), (0, 5), (6, 0), (42, 0), (73, 3), (73, 4), (73, 5), (73, 6), (73, 7), (73, 8), (73, 16), (73, 17), (74, 0), (75, 0), (76, 0), (77, 0), (78, 0), (79, 0), (80, 0)]
def L_X11_years : List (Nat × Nat) := [(0, 4), (0, 5), (6, 0), (28, 1), (28, 2), (28, 3), (28, 4), (29, 0), (42, 0), (73, 3), (73, 4), (73, 5), (73, 6), (73, 7), (73, 8), (73, 16), (73, 17), (74, 0), (75, 0), (76, 0), (77, 0), (78, 0), (79, 0), (80, 0)]
def L_X11_fillGains : List (Nat × Nat) := [(0, 4), (0, 5), (6, 0), (28, 1), (28, 2), (28, 3), (28, 4), (29, 0), (35, 0), (42, 0), (73, 3), (73, 4), (73, 5), (73, 6), (73, 7), (73, 8), (73, 16), (73, 17), (74, 0), (75, 0), (76, 0), (77, 0), (78, 0), (79, 0), (80, 0)]
def L_X12_feed : List (Nat × Nat) := [(101, 1), (101, 2), (102, 0)]
def L_X12_nextToken : List (Nat × Nat) := [(101, 5), (101, 6), (101, 7), (101, 8), (101, 9)]
def L_X12_fails : List (Nat × Nat) := [(101, 10)]
def L_X12_plain : List (Nat × Nat) := [(103, 0), (119, 0), (120, 0), (121, 0)]
def L_X12_puts : List (Nat × Nat) := [(101, 31), (122, 0)]
def L_X12_reads : List (Nat × Nat) := [(101, 5), (101, 6), (101, 7), (101, 8), (101, 9), (101, 10), (101, 31), (122, 0), (123, 0), (124, 0)]
def L_X12_opens : List (Nat × Nat) := [(126, 0), (128, 0), (129, 0), (130, 0), (132, 0)]
def L_X12_sums : List (Nat × Nat) := [(129, 0), (132, 0)]
def L_X12_tests : List (Nat × Nat) := [(125, 0), (128, 0), (129, 0), (130, 0), (132, 0)]
def L_X12_worked : List (Nat × Nat) := [(125, 0), (126, 0), (127, 0), (128, 0), (129, 0), (130, 0), (131, 0), (132, 0), (133, 0)]
def L_X12_needsNumber : List (Nat × Nat) := [(101, 5), (101, 6), (101, 7), (101, 8), (101, 9), (101, 10), (101, 45)]
def L_X12_needsWord : List (Nat × Nat) := [(101, 5), (101, 6), (101, 7), (101, 8), (101, 9), (101, 10)]
def L_X12_needsBoth : List (Nat × Nat) := [(101, 5), (101, 6), (101, 7), (101, 8), (101, 9), (101, 10), (101, 45)]
def L_X12_closes : List (Nat × Nat) := [(101, 5), (101, 6), (101, 7), (101, 8), (101, 9), (101, 10)]
def L_X12_isNew : List (Nat × Nat) := [(101, 10)]
def L_X12_needsThing : List (Nat × Nat) := [(101, 10), (101, 45)]
def L_X12_isTwice : List (Nat × Nat) := [(101, 32)]
def L_X12_readsStop : List (Nat × Nat) := [(101, 5), (101, 6), (101, 7), (101, 8), (101, 9), (101, 10), (101, 32), (101, 45), (103, 0)]
def L_X12_readsCoach : List (Nat × Nat) := [(101, 5), (101, 6), (101, 7), (101, 8), (101, 9), (101, 10), (101, 45), (103, 0), (104, 0), (107, 0)]
def L_X12_readsThing : List (Nat × Nat) := [(101, 5), (101, 6), (101, 7), (101, 8), (101, 9), (101, 10), (101, 45), (103, 0), (105, 0), (108, 0), (109, 0), (110, 0), (111, 0), (112, 0)]
def L_X12_readsWants : List (Nat × Nat) := [(101, 5), (101, 6), (101, 7), (101, 8), (101, 9), (101, 10), (101, 45), (117, 0), (118, 0)]
def L_X12_readsBuyer : List (Nat × Nat) := [(101, 5), (101, 6), (101, 7), (101, 8), (101, 9), (101, 10), (101, 45), (103, 0), (106, 0), (113, 0), (114, 0), (115, 0), (116, 0), (117, 0), (118, 0)]
def L_X12_readsOne : List (Nat × Nat) := [(101, 5), (101, 6), (101, 7), (101, 8), (101, 9), (101, 10), (101, 32), (101, 45), (103, 0)]
def L_X12_readsLate : List (Nat × Nat) := [(101, 5), (101, 6), (101, 7), (101, 8), (101, 9), (101, 10), (101, 32), (101, 45), (119, 0)]
def L_X12_readsOrder : List (Nat × Nat) := [(101, 5), (101, 6), (101, 7), (101, 8), (101, 9), (101, 10), (101, 31), (120, 0), (121, 0), (122, 0), (123, 0), (124, 0)]
def L_X12_starts : List (Nat × Nat) := [(101, 2), (101, 4), (101, 5), (101, 6), (101, 7), (101, 8), (101, 9)]
def L_X12_readsAll : List (Nat × Nat) := [(101, 2), (101, 4), (101, 5), (101, 6), (101, 7), (101, 8), (101, 9), (101, 10), (101, 31), (101, 32), (101, 45), (103, 0), (104, 0), (105, 0), (106, 0), (107, 0), (108, 0), (109, 0), (110, 0), (111, 0), (112, 0), (113, 0), (114, 0), (115, 0), (116, 0), (117, 0), (118, 0), (119, 0), (120, 0), (121, 0), (122, 0), (123, 0), (124, 0)]
def L_X12_moves (v0 : Nat) : List (Nat × Nat) := [(v0, 0)]
def L_X12_movesNames (v0 : Nat) : List (Nat × Nat) := [(v0, 0)]
def L_X12_lays : List (Nat × Nat) := [(103, 0), (104, 0), (105, 0), (106, 0), (107, 0), (108, 0), (109, 0), (110, 0), (111, 0), (112, 0), (113, 0), (114, 0), (115, 0), (116, 0), (117, 0), (118, 0), (119, 0), (120, 0), (121, 0), (122, 0)]
def L_X12_copies (v2 : Nat) : List (Nat × Nat) := [(v2, 0)]
def L_X12_readsLine : List (Nat × Nat) := [(101, 5), (101, 6), (101, 7), (101, 8), (101, 9), (101, 10), (101, 45), (135, 0), (136, 0), (137, 0), (138, 0)]
def L_X12_laysLines : List (Nat × Nat) := [(135, 0), (136, 0), (137, 0), (138, 0)]
def L_X12_laysTold : List (Nat × Nat) := [(139, 0), (140, 0), (141, 0), (142, 0), (143, 0), (144, 0)]
def L_X12_fresh : List (Nat × Nat) := [(145, 0)]
def L_X12_junction : List (Nat × Nat) := [(101, 1), (101, 2), (101, 4), (101, 5), (101, 6), (101, 7), (101, 8), (101, 9), (101, 10), (101, 31), (101, 32), (101, 45), (101, 61), (103, 0), (104, 0), (105, 0), (106, 0), (107, 0), (108, 0), (109, 0), (110, 0), (111, 0), (112, 0), (113, 0), (114, 0), (115, 0), (116, 0), (117, 0), (118, 0), (119, 0), (120, 0), (121, 0), (122, 0), (123, 0), (124, 0), (135, 0), (139, 0), (142, 0), (145, 0), (149, 0)]
def L_X12_days : List (Nat × Nat) := [(101, 1), (101, 2), (101, 4), (101, 5), (101, 6), (101, 7), (101, 8), (101, 9), (101, 10), (101, 45), (135, 0), (136, 0), (137, 0), (138, 0)]
def L_X12_lastsFor : List (Nat × Nat) := [(101, 66), (155, 0)]
def L_X12_orderOf : List (Nat × Nat) := [(125, 0), (126, 0), (127, 0), (128, 0), (129, 0), (130, 0), (131, 0), (132, 0), (133, 0), (134, 0)]
def L_X12_nextAt : List (Nat × Nat) := [(125, 0), (126, 0), (127, 0), (128, 0), (129, 0), (130, 0), (131, 0), (132, 0), (133, 0), (134, 0)]
def L_X12_drinks : List (Nat × Nat) := [(152, 0), (153, 0), (154, 0)]
def L_X12_runs : List (Nat × Nat) := [(101, 66), (125, 0), (126, 0), (127, 0), (128, 0), (129, 0), (130, 0), (131, 0), (132, 0), (133, 0), (134, 0), (150, 0), (151, 0), (152, 0), (153, 0), (154, 0), (155, 0), (156, 0)]
def L_X12_thing : List (Nat × Nat) := [(101, 1)]
def L_X12_buyer : List (Nat × Nat) := [(101, 1)]
def L_X12_keeps : List (Nat × Nat) := [(101, 61), (148, 0)]
def L_X12_changes : List (Nat × Nat) := [(101, 61), (145, 0), (148, 0)]
def L_X12_out : List (Nat × Nat) := [(101, 1), (101, 61), (145, 0), (148, 0)]
def L_X12_set : List (Nat × Nat) := [(101, 1), (101, 61), (145, 0), (148, 0)]
def L_X12_heats : List (Nat × Nat) := [(101, 1), (101, 61), (145, 0), (148, 0)]
def L_X12_undo : List (Nat × Nat) := [(101, 1), (101, 61), (145, 0)]
def L_X12_goes : List (Nat × Nat) := [(101, 61), (101, 66), (101, 75), (101, 76), (125, 0), (126, 0), (127, 0), (128, 0), (129, 0), (130, 0), (131, 0), (132, 0), (133, 0), (134, 0), (145, 0), (148, 0), (150, 0), (151, 0), (152, 0), (153, 0), (154, 0), (155, 0), (156, 0)]
def L_X12_judged : List (Nat × Nat) := [(101, 1), (101, 61), (101, 66), (101, 75), (101, 76), (125, 0), (126, 0), (127, 0), (128, 0), (129, 0), (130, 0), (131, 0), (132, 0), (133, 0), (134, 0), (145, 0), (146, 0), (148, 0), (150, 0), (151, 0), (152, 0), (153, 0), (154, 0), (155, 0), (156, 0)]
def L_X12_served : List (Nat × Nat) := [(101, 1), (101, 66), (125, 0), (126, 0), (127, 0), (128, 0), (129, 0), (130, 0), (131, 0), (132, 0), (133, 0), (134, 0), (150, 0), (151, 0), (152, 0), (153, 0), (154, 0), (155, 0), (156, 0)]
def L_X12_round : List (Nat × Nat) := [(101, 1), (101, 66), (125, 0), (126, 0), (127, 0), (128, 0), (129, 0), (130, 0), (131, 0), (132, 0), (133, 0), (134, 0), (150, 0), (151, 0), (152, 0), (153, 0), (154, 0), (155, 0), (156, 0)]
def L_X12_chance : List (Nat × Nat) := [(101, 1), (101, 66), (125, 0), (126, 0), (127, 0), (128, 0), (129, 0), (130, 0), (131, 0), (132, 0), (133, 0), (134, 0), (145, 0), (150, 0), (151, 0), (152, 0), (153, 0), (154, 0), (155, 0), (156, 0)]
def L_X12_rests : List (Nat × Nat) := [(101, 1), (101, 66), (125, 0), (126, 0), (127, 0), (128, 0), (129, 0), (130, 0), (131, 0), (132, 0), (133, 0), (134, 0), (145, 0), (150, 0), (151, 0), (152, 0), (153, 0), (154, 0), (155, 0), (156, 0), (157, 0)]
def L_X12_errand : List (Nat × Nat) := [(101, 1), (101, 63), (101, 64), (101, 66), (125, 0), (126, 0), (127, 0), (128, 0), (129, 0), (130, 0), (131, 0), (132, 0), (133, 0), (134, 0), (145, 0), (150, 0), (151, 0), (152, 0), (153, 0), (154, 0), (155, 0), (156, 0)]
def L_X12_table : List (Nat × Nat) := [(101, 1), (101, 62), (101, 66), (125, 0), (126, 0), (127, 0), (128, 0), (129, 0), (130, 0), (131, 0), (132, 0), (133, 0), (134, 0), (145, 0), (150, 0), (151, 0), (152, 0), (153, 0), (154, 0), (155, 0), (156, 0)]
def L_X12_stand : List (Nat × Nat) := [(101, 1), (101, 66), (125, 0), (126, 0), (127, 0), (128, 0), (129, 0), (130, 0), (131, 0), (132, 0), (133, 0), (134, 0), (145, 0), (150, 0), (151, 0), (152, 0), (153, 0), (154, 0), (155, 0), (156, 0)]
def L_X12_ring : List (Nat × Nat) := [(101, 1), (101, 66), (125, 0), (126, 0), (127, 0), (128, 0), (129, 0), (130, 0), (131, 0), (132, 0), (133, 0), (134, 0), (145, 0), (150, 0), (151, 0), (152, 0), (153, 0), (154, 0), (155, 0), (156, 0)]
def L_X12_best : List (Nat × Nat) := [(101, 1), (101, 66), (125, 0), (126, 0), (127, 0), (128, 0), (129, 0), (130, 0), (131, 0), (132, 0), (133, 0), (134, 0), (145, 0), (150, 0), (151, 0), (152, 0), (153, 0), (154, 0), (155, 0), (156, 0)]
def L_X12_tray : List (Nat × Nat) := [(101, 1)]
def L_X12_price : List (Nat × Nat) := [(101, 1)]
def L_X12_aheadOf : List (Nat × Nat) := [(101, 65), (101, 66), (101, 67), (125, 0), (126, 0), (127, 0), (128, 0), (129, 0), (130, 0), (131, 0), (132, 0), (133, 0), (134, 0), (150, 0), (151, 0), (152, 0), (153, 0), (154, 0), (155, 0), (156, 0)]
def L_X12_ahead : List (Nat × Nat) := [(101, 1), (101, 65), (101, 66), (101, 67), (125, 0), (126, 0), (127, 0), (128, 0), (129, 0), (130, 0), (131, 0), (132, 0), (133, 0), (134, 0), (150, 0), (151, 0), (152, 0), (153, 0), (154, 0), (155, 0), (156, 0)]
def L_X12_most : List (Nat × Nat) := [(101, 1), (101, 65), (101, 66), (101, 67), (125, 0), (126, 0), (127, 0), (128, 0), (129, 0), (130, 0), (131, 0), (132, 0), (133, 0), (134, 0), (150, 0), (151, 0), (152, 0), (153, 0), (154, 0), (155, 0), (156, 0)]
def L_X12_sell : List (Nat × Nat) := [(101, 1), (139, 0), (140, 0), (141, 0)]
def L_X12_laws : List (Nat × Nat) := [(101, 1)]
def L_X12_see : List (Nat × Nat) := [(101, 1), (142, 0), (143, 0), (144, 0)]
def L_X12_was : List (Nat × Nat) := [(101, 1), (101, 66), (125, 0), (126, 0), (127, 0), (128, 0), (129, 0), (130, 0), (131, 0), (132, 0), (133, 0), (134, 0), (150, 0), (151, 0), (152, 0), (153, 0), (154, 0), (155, 0), (156, 0)]
def L_X12_draws : List (Nat × Nat) := [(101, 78)]
def L_X12_years : List (Nat × Nat) := [(101, 1), (101, 66), (101, 78), (125, 0), (126, 0), (127, 0), (128, 0), (129, 0), (130, 0), (131, 0), (132, 0), (133, 0), (134, 0), (145, 0), (150, 0), (151, 0), (152, 0), (153, 0), (154, 0), (155, 0), (156, 0)]
def L_X12_mark : List (Nat × Nat) := [(101, 1), (101, 61), (135, 0), (136, 0), (137, 0), (138, 0), (139, 0), (140, 0), (141, 0), (142, 0), (143, 0), (144, 0), (145, 0), (147, 0), (149, 0)]
def L_X12_count : List (Nat × Nat) := [(101, 1)]
