/-! Frames: what a function may write, as a list of (object, 0) for the whole object, (object, slot + 1), (0, j) for the j-th reference -/
def wm (L : List (Nat × Nat)) (o k : Nat) : Bool := L.any (fun q => q.1 == o && (q.2 == 0 || q.2 == k + 1))
def wsub (L M : List (Nat × Nat)) : Bool := L.all (fun q => M.any (fun r => r.1 == q.1 && (r.2 == 0 || r.2 == q.2)))
def Fr (L : List (Nat × Nat)) (s t : HS) : Prop :=
  (∀ o k, wm L o k = false → t.1 o k = s.1 o k) ∧ (∀ o k, wm L o k = false → t.2.1 o k = s.2.1 o k) ∧ (wm L 0 1 = false → t.2.2.1 = s.2.2.1) ∧ (wm L 0 2 = false → t.2.2.2.1 = s.2.2.2.1) ∧ (wm L 0 3 = false → t.2.2.2.2.1 = s.2.2.2.2.1) ∧ (wm L 0 4 = false → t.2.2.2.2.2.1 = s.2.2.2.2.2.1) ∧ (wm L 0 5 = false → t.2.2.2.2.2.2 = s.2.2.2.2.2.2)
theorem Fr.refl {L : List (Nat × Nat)} {s : HS} : Fr L s s := ⟨fun _ _ _ => rfl, fun _ _ _ => rfl, fun _ => rfl, fun _ => rfl, fun _ => rfl, fun _ => rfl, fun _ => rfl⟩
theorem Fr.trans {L : List (Nat × Nat)} {a b c : HS} (h : Fr L a b) (g : Fr L b c) : Fr L a c :=
  ⟨fun o k q => (g.1 o k q).trans (h.1 o k q), fun o k q => (g.2.1 o k q).trans (h.2.1 o k q), fun q => (g.2.2.1 q).trans (h.2.2.1 q), fun q => (g.2.2.2.1 q).trans (h.2.2.2.1 q), fun q => (g.2.2.2.2.1 q).trans (h.2.2.2.2.1 q), fun q => (g.2.2.2.2.2.1 q).trans (h.2.2.2.2.2.1 q), fun q => (g.2.2.2.2.2.2 q).trans (h.2.2.2.2.2.2 q)⟩
theorem wm_sub {L M : List (Nat × Nat)} (h : wsub L M = true) {o k : Nat} (hk : wm M o k = false) : wm L o k = false := by
  cases hq : wm L o k with
  | false => rfl
  | true =>
    unfold wm at hq
    obtain ⟨q, hq1, hq2⟩ := List.any_eq_true.mp hq
    have h1 := List.all_eq_true.mp h q hq1
    obtain ⟨r, hr1, hr2⟩ := List.any_eq_true.mp h1
    simp only [Bool.and_eq_true, Bool.or_eq_true, beq_iff_eq] at hq2 hr2
    have : wm M o k = true := by
      unfold wm
      refine List.any_eq_true.mpr ⟨r, hr1, ?_⟩
      simp only [Bool.and_eq_true, Bool.or_eq_true, beq_iff_eq]
      refine ⟨hr2.1.trans hq2.1, ?_⟩
      rcases hr2.2 with z | z
      · exact Or.inl z
      · rcases hq2.2 with y | y
        · exact Or.inl (z.trans y)
        · exact Or.inr (z.trans y)
    rw [this] at hk
    cases hk
theorem Fr.mono {L M : List (Nat × Nat)} {a b : HS} (h : Fr L a b) (hs : wsub L M = true) : Fr M a b :=
  ⟨fun o k q => h.1 o k (wm_sub hs q), fun o k q => h.2.1 o k (wm_sub hs q), fun q => h.2.2.1 (wm_sub hs q), fun q => h.2.2.2.1 (wm_sub hs q), fun q => h.2.2.2.2.1 (wm_sub hs q), fun q => h.2.2.2.2.2.1 (wm_sub hs q), fun q => h.2.2.2.2.2.2 (wm_sub hs q)⟩
/-- an object that isn't written at all -/
def wo (L : List (Nat × Nat)) (o : Nat) : Bool := L.any (fun q => q.1 == o)
theorem wo_m {L : List (Nat × Nat)} {o : Nat} (h : wo L o = false) (k : Nat) : wm L o k = false := by
  cases hq : wm L o k with
  | false => rfl
  | true =>
    obtain ⟨q, hq1, hq2⟩ := List.any_eq_true.mp hq
    simp only [Bool.and_eq_true, beq_iff_eq] at hq2
    have : wo L o = true := List.any_eq_true.mpr ⟨q, hq1, by simp [hq2.1]⟩
    rw [this] at h
    cases h
theorem Fr.o {L : List (Nat × Nat)} {s t : HS} (h : Fr L s t) {o : Nat} (q : wo L o = false) : t.1 o = s.1 o := funext fun k => h.1 o k (wo_m q k)
theorem Fr.l {L : List (Nat × Nat)} {s t : HS} (h : Fr L s t) {o : Nat} (q : wo L o = false) : t.2.1 o = s.2.1 o := funext fun k => h.2.1 o k (wo_m q k)
theorem fr_sI {L : List (Nat × Nat)} {s : HS} {o k : Nat} {x : Int32} (h : wm L o k = true) : Fr L s (sI s o k x) := by
  refine ⟨fun o' k' q => ?_, fun _ _ _ => rfl, fun _ => rfl, fun _ => rfl, fun _ => rfl, fun _ => rfl, fun _ => rfl⟩
  show up2 s.1 o k x o' k' = s.1 o' k'
  unfold up2
  split
  · rename_i e1
    split
    · rename_i e2
      subst e1; subst e2
      rw [h] at q; cases q
    · rfl
  · rfl
theorem fr_sL {L : List (Nat × Nat)} {s : HS} {o k : Nat} {x : Int64} (h : wm L o k = true) : Fr L s (sL s o k x) := by
  refine ⟨fun _ _ _ => rfl, fun o' k' q => ?_, fun _ => rfl, fun _ => rfl, fun _ => rfl, fun _ => rfl, fun _ => rfl⟩
  show up2 s.2.1 o k x o' k' = s.2.1 o' k'
  unfold up2
  split
  · rename_i e1
    split
    · rename_i e2
      subst e1; subst e2
      rw [h] at q; cases q
    · rfl
  · rfl
theorem wm_all {L : List (Nat × Nat)} {o : Nat} (h : L.any (fun q => q.1 == o && q.2 == 0) = true) (k : Nat) : wm L o k = true := by
  obtain ⟨q, hq1, hq2⟩ := List.any_eq_true.mp h
  simp only [Bool.and_eq_true, beq_iff_eq] at hq2
  exact List.any_eq_true.mpr ⟨q, hq1, by simp [hq2.1, hq2.2]⟩
theorem fr_sA {L : List (Nat × Nat)} {s : HS} {o : Nat} {f : Nat → Int32} (h : L.any (fun q => q.1 == o && q.2 == 0) = true) : Fr L s (sA s o f) := by
  refine ⟨fun o' k' q => ?_, fun _ _ _ => rfl, fun _ => rfl, fun _ => rfl, fun _ => rfl, fun _ => rfl, fun _ => rfl⟩
  show (if o' = o then f else s.1 o') k' = s.1 o' k'
  split
  · rename_i e1
    subst e1
    rw [wm_all h k'] at q; cases q
  · rfl
def FX {β : Type} (π : β → HS) (L : List (Nat × Nat)) (s0 : HS) (x : Option β) : Prop := ∀ r, x = some r → Fr L s0 (π r)
section FO
variable {β : Type} {π : β → HS} {L : List (Nat × Nat)} {s0 : HS}
theorem fo_none : FX π L s0 none := fun _ h => nomatch h
theorem fo_some1 {s : HS} (h : Fr L s0 s) : FX id L s0 (some s) := fun r' e => by cases e; exact h
theorem fo_some2 {α : Type} {a : α} {s : HS} (h : Fr L s0 s) : FX Prod.snd L s0 (some (a, s)) := fun r' e => by cases e; exact h
theorem fo_some {r : β} (h : Fr L s0 (π r)) : FX π L s0 (some r) := fun r' e => by cases e; exact h
theorem fo_gd {b : Bool} {x : Option β} (h : FX π L s0 x) : FX π L s0 (gd b x) := fun r e => h r (gd_some e).2
theorem fo_gdh {b : Bool} {x : Option β} (h : b = true → FX π L s0 x) : FX π L s0 (gd b x) := fun r e => h (gd_some e).1 r (gd_some e).2
theorem fo_ite {c : Prop} [Decidable c] {a b : Option β} (h : FX π L s0 a) (g : FX π L s0 b) : FX π L s0 (if c then a else b) := by
  split
  · exact h
  · exact g
theorem fo_ltI {x : Int32} {f : Int32 → Option β} (h : ∀ y, FX π L s0 (f y)) : FX π L s0 (ltb x f) := h x
theorem fo_ltL {x : Int64} {f : Int64 → Option β} (h : ∀ y, FX π L s0 (f y)) : FX π L s0 (ltb x f) := h x
theorem fo_ltN {x : Nat} {f : Nat → Option β} (h : ∀ y, FX π L s0 (f y)) : FX π L s0 (ltb x f) := h x
theorem fo_bndv {x : Option Int32} {f : Int32 → Option β} (h : ∀ y, FX π L s0 (f y)) : FX π L s0 (bnd x f) := fun r e => by
  obtain ⟨y, -, e⟩ := bnd_s e
  exact h y r e
theorem fo_bndl {x : Option Int64} {f : Int64 → Option β} (h : ∀ y, FX π L s0 (f y)) : FX π L s0 (bnd x f) := fun r e => by
  obtain ⟨y, -, e⟩ := bnd_s e
  exact h y r e
theorem fo_sI {s : HS} {o k : Nat} {x : Int32} {f : HS → Option β} (hw : wm L o k = true) (h0 : Fr L s0 s) (h : ∀ s', Fr L s0 s' → FX π L s0 (f s')) : FX π L s0 (ltb (sI s o k x) f) := h _ (h0.trans (fr_sI hw))
theorem fo_sIa {s : HS} {o k : Nat} {x : Int32} {f : HS → Option β} (hw : L.any (fun q => q.1 == o && q.2 == 0) = true) (h0 : Fr L s0 s) (h : ∀ s', Fr L s0 s' → FX π L s0 (f s')) : FX π L s0 (ltb (sI s o k x) f) := h _ (h0.trans (fr_sI (wm_all hw k)))
theorem fo_sL {s : HS} {o k : Nat} {x : Int64} {f : HS → Option β} (hw : wm L o k = true) (h0 : Fr L s0 s) (h : ∀ s', Fr L s0 s' → FX π L s0 (f s')) : FX π L s0 (ltb (sL s o k x) f) := h _ (h0.trans (fr_sL hw))
theorem fo_sLa {s : HS} {o k : Nat} {x : Int64} {f : HS → Option β} (hw : L.any (fun q => q.1 == o && q.2 == 0) = true) (h0 : Fr L s0 s) (h : ∀ s', Fr L s0 s' → FX π L s0 (f s')) : FX π L s0 (ltb (sL s o k x) f) := h _ (h0.trans (fr_sL (wm_all hw k)))
theorem fo_sA {s : HS} {o : Nat} {g : Nat → Int32} {f : HS → Option β} (hw : L.any (fun q => q.1 == o && q.2 == 0) = true) (h0 : Fr L s0 s) (h : ∀ s', Fr L s0 s' → FX π L s0 (f s')) : FX π L s0 (ltb (sA s o g) f) := h _ (h0.trans (fr_sA hw))
theorem fo_q3 {s : HS} {q : Nat} {f : HS → Option β} (hw : wm L 0 3 = true) (h0 : Fr L s0 s) (h : ∀ s', Fr L s0 s' → FX π L s0 (f s')) : FX π L s0 (ltb (sQ3 s q) f) := h _ (h0.trans ⟨fun _ _ _ => rfl, fun _ _ _ => rfl, fun _ => rfl, fun _ => rfl, fun z => (by rw [hw] at z; cases z), fun _ => rfl, fun _ => rfl⟩)
theorem fo_q4 {s : HS} {q : Nat} {f : HS → Option β} (hw : wm L 0 4 = true) (h0 : Fr L s0 s) (h : ∀ s', Fr L s0 s' → FX π L s0 (f s')) : FX π L s0 (ltb (sQ4 s q) f) := h _ (h0.trans ⟨fun _ _ _ => rfl, fun _ _ _ => rfl, fun _ => rfl, fun _ => rfl, fun _ => rfl, fun z => (by rw [hw] at z; cases z), fun _ => rfl⟩)
theorem fo_q5 {s : HS} {q : Nat} {f : HS → Option β} (hw : wm L 0 5 = true) (h0 : Fr L s0 s) (h : ∀ s', Fr L s0 s' → FX π L s0 (f s')) : FX π L s0 (ltb (sQ5 s q) f) := h _ (h0.trans ⟨fun _ _ _ => rfl, fun _ _ _ => rfl, fun _ => rfl, fun _ => rfl, fun _ => rfl, fun _ => rfl, fun z => (by rw [hw] at z; cases z)⟩)
theorem fo_bnd {M : List (Nat × Nat)} {s : HS} {x : Option HS} {f : HS → Option β} (hx : FX id M s x) (hs : wsub M L = true) (h0 : Fr L s0 s) (h : ∀ s', Fr L s0 s' → FX π L s0 (f s')) : FX π L s0 (bnd x f) := fun r e => by
  obtain ⟨y, e1, e2⟩ := bnd_s e
  exact h y (h0.trans ((hx y e1).mono hs)) r e2
theorem fo_bnd2 {γ : Type} {M : List (Nat × Nat)} {s : HS} {x : Option (γ × HS)} {f : γ → HS → Option β} (hx : FX Prod.snd M s x) (hs : wsub M L = true) (h0 : Fr L s0 s) (h : ∀ y s', Fr L s0 s' → FX π L s0 (f y s')) : FX π L s0 (bnd2 x f) := fun r e => by
  obtain ⟨y, z, e1, e2⟩ := bnd2_s e
  exact h y z (h0.trans ((hx (y, z) e1).mono hs)) r e2
end FO
def L_X8_stepNumber : List (Nat × Nat) := [(36, 4), (36, 5), (36, 7)]
def L_X8_stepWord : List (Nat × Nat) := [(0, 6), (36, 4), (36, 5), (36, 6)]
def L_X8_step : List (Nat × Nat) := [(0, 6), (36, 3), (36, 4), (36, 5), (36, 6), (36, 7), (36, 8)]
def L_X8_rewind : List (Nat × Nat) := [(0, 6), (36, 3), (36, 4), (36, 5), (36, 6), (36, 7), (36, 8), (36, 10)]
def L_X8_finish : List (Nat × Nat) := [(36, 2)]
def L_X1_keepLine : List (Nat × Nat) := [(71, 3), (72, 0)]
def L_X8_fail : List (Nat × Nat) := [(0, 6), (36, 5), (36, 10)]
def L_X8_takeSign : List (Nat × Nat) := [(0, 6), (36, 3), (36, 4), (36, 5), (36, 6), (36, 7), (36, 8), (36, 10)]
def L_X8_takeNumber : List (Nat × Nat) := [(0, 6), (36, 3), (36, 4), (36, 5), (36, 6), (36, 7), (36, 8), (36, 10)]
def L_X8_takeKnown : List (Nat × Nat) := [(0, 6), (36, 3), (36, 4), (36, 5), (36, 6), (36, 7), (36, 8), (36, 10)]
def L_X1_readLine : List (Nat × Nat) := [(0, 6), (36, 3), (36, 4), (36, 5), (36, 6), (36, 7), (36, 8), (36, 10), (71, 3), (72, 0)]
def L_X1_read : List (Nat × Nat) := [(0, 6), (36, 2), (36, 3), (36, 4), (36, 5), (36, 6), (36, 7), (36, 8), (36, 10), (71, 3), (72, 0)]
def L_X2_value (p : Nat) : List (Nat × Nat) := [((Rf p 2), 0)]
def L_X8_take : List (Nat × Nat) := [(0, 6), (36, 3), (36, 4), (36, 5), (36, 6), (36, 7), (36, 8), (36, 10)]
def L_X8_takeOneOf : List (Nat × Nat) := [(0, 6), (36, 3), (36, 4), (36, 5), (36, 6), (36, 7), (36, 8), (36, 10)]
def L_X6_layOut : List (Nat × Nat) := [(0, 4), (0, 5), (73, 3), (73, 4), (73, 5), (73, 6), (73, 7), (73, 8)]
def L_X6_makeReady : List (Nat × Nat) := [(73, 16), (73, 17), (74, 0), (75, 0), (76, 0), (77, 0), (78, 0), (79, 0), (80, 0)]
def L_X6_rankOf : List (Nat × Nat) := [(6, 0), (42, 0)]
def L_X6_nextServed : List (Nat × Nat) := [(6, 0), (42, 0)]
def L_X6_begin : List (Nat × Nat) := [(73, 7), (73, 17), (76, 0), (77, 0)]
def L_X6_serveWaiting : List (Nat × Nat) := [(6, 0), (42, 0), (73, 7), (73, 17), (76, 0), (77, 0), (80, 0)]
def L_X6_drink : List (Nat × Nat) := [(78, 0), (79, 0)]
def L_X6_endFor : List (Nat × Nat) := [(73, 16), (78, 0), (79, 0)]
def L_X6_play : List (Nat × Nat) := [(6, 0), (42, 0), (73, 7), (73, 16), (73, 17), (74, 0), (75, 0), (76, 0), (77, 0), (78, 0), (79, 0), (80, 0)]
def L_X7_startWith (p : Nat) : List (Nat × Nat) := [((Rf p 4), 0), (p, 1), (p, 2), (p, 3), (p, 4)]
def L_X7_forget (p : Nat) : List (Nat × Nat) := [(p, 7), (p, 9), (p, 11)]
def L_X7_takeLines (p : Nat) : List (Nat × Nat) := [((Rf p 5), 0), (p, 7)]
def L_X7_copyHand (p : Nat) : List (Nat × Nat) := [((Rf p 4), 0), (p, 1), (p, 2), (p, 3), (p, 4)]
def L_X7_copyAll (p : Nat) : List (Nat × Nat) := [((Rf p 4), 0), ((Rf p 5), 0), ((Rf p 7), 0), ((Rf p 9), 0), (p, 1), (p, 2), (p, 3), (p, 4), (p, 7), (p, 9), (p, 11)]
def L_X7_change (p : Nat) : List (Nat × Nat) := [((Rf p 4), 0), (p, 1), (p, 2), (p, 3), (p, 4)]
def L_X8_append : List (Nat × Nat) := [(36, 2), (37, 0)]
def L_X11_feed : List (Nat × Nat) := [(36, 2), (37, 0)]
def L_X11_days : List (Nat × Nat) := [(0, 6), (36, 2), (36, 3), (36, 4), (36, 5), (36, 6), (36, 7), (36, 8), (36, 10), (64, 7), (66, 0), (71, 3), (72, 0)]
def L_X11_changeByHand : List (Nat × Nat) := [(1, 11), (34, 0), (64, 1), (64, 2), (64, 3), (64, 4), (65, 0)]
def L_X11_out : List (Nat × Nat) := [(1, 11), (34, 0), (64, 1), (64, 2), (64, 3), (64, 4), (65, 0)]
def L_X11_set : List (Nat × Nat) := [(1, 11), (34, 0), (64, 1), (64, 2), (64, 3), (64, 4), (65, 0)]
def L_X11_heats : List (Nat × Nat) := [(1, 11), (34, 0), (64, 1), (64, 2), (64, 3), (64, 4), (65, 0)]
def L_X11_undo : List (Nat × Nat) := [(1, 11), (64, 1), (64, 2), (64, 3), (64, 4), (65, 0)]
def L_X11_playTrial : List (Nat × Nat) := [(0, 4), (0, 5), (6, 0), (42, 0), (73, 3), (73, 4), (73, 5), (73, 6), (73, 7), (73, 8), (73, 16), (73, 17), (74, 0), (75, 0), (76, 0), (77, 0), (78, 0), (79, 0), (80, 0)]
def L_X11_judged : List (Nat × Nat) := [(0, 4), (0, 5), (6, 0), (28, 1), (28, 2), (28, 3), (28, 4), (29, 0), (42, 0), (73, 3), (73, 4), (73, 5), (73, 6), (73, 7), (73, 8), (73, 16), (73, 17), (74, 0), (75, 0), (76, 0), (77, 0), (78, 0), (79, 0), (80, 0)]
def L_X11_playNow : List (Nat × Nat) := [(0, 4), (0, 5), (6, 0), (42, 0), (73, 3), (73, 4), (73, 5), (73, 6), (73, 7), (73, 8), (73, 16), (73, 17), (74, 0), (75, 0), (76, 0), (77, 0), (78, 0), (79, 0), (80, 0)]
def L_X11_served : List (Nat × Nat) := [(0, 4), (0, 5), (6, 0), (42, 0), (73, 3), (73, 4), (73, 5), (73, 6), (73, 7), (73, 8), (73, 16), (73, 17), (74, 0), (75, 0), (76, 0), (77, 0), (78, 0), (79, 0), (80, 0)]
def L_X11_round : List (Nat × Nat) := [(0, 4), (0, 5), (6, 0), (42, 0), (73, 3), (73, 4), (73, 5), (73, 6), (73, 7), (73, 8), (73, 16), (73, 17), (74, 0), (75, 0), (76, 0), (77, 0), (78, 0), (79, 0), (80, 0)]
def L_X11_chance : List (Nat × Nat) := [(0, 4), (0, 5), (6, 0), (28, 1), (28, 2), (28, 3), (28, 4), (29, 0), (42, 0), (73, 3), (73, 4), (73, 5), (73, 6), (73, 7), (73, 8), (73, 16), (73, 17), (74, 0), (75, 0), (76, 0), (77, 0), (78, 0), (79, 0), (80, 0)]
def L_X11_errandSecond : List (Nat × Nat) := [(0, 4), (0, 5), (6, 0), (28, 1), (28, 2), (28, 3), (28, 4), (29, 0), (42, 0), (73, 3), (73, 4), (73, 5), (73, 6), (73, 7), (73, 8), (73, 16), (73, 17), (74, 0), (75, 0), (76, 0), (77, 0), (78, 0), (79, 0), (80, 0)]
def L_X11_errand : List (Nat × Nat) := [(0, 4), (0, 5), (6, 0), (28, 1), (28, 2), (28, 3), (28, 4), (29, 0), (42, 0), (73, 3), (73, 4), (73, 5), (73, 6), (73, 7), (73, 8), (73, 16), (73, 17), (74, 0), (75, 0), (76, 0), (77, 0), (78, 0), (79, 0), (80, 0)]
def L_X11_table : List (Nat × Nat) := [(0, 4), (0, 5), (6, 0), (28, 1), (28, 2), (28, 3), (28, 4), (29, 0), (42, 0), (73, 3), (73, 4), (73, 5), (73, 6), (73, 7), (73, 8), (73, 16), (73, 17), (74, 0), (75, 0), (76, 0), (77, 0), (78, 0), (79, 0), (80, 0)]
def L_X11_stand : List (Nat × Nat) := [(0, 4), (0, 5), (6, 0), (28, 1), (28, 2), (28, 3), (28, 4), (29, 0), (42, 0), (73, 3), (73, 4), (73, 5), (73, 6), (73, 7), (73, 8), (73, 16), (73, 17), (74, 0), (75, 0), (76, 0), (77, 0), (78, 0), (79, 0), (80, 0)]
def L_X11_ring : List (Nat × Nat) := [(0, 4), (0, 5), (6, 0), (28, 1), (28, 2), (28, 3), (28, 4), (29, 0), (42, 0), (73, 3), (73, 4), (73, 5), (73, 6), (73, 7), (73, 8), (73, 16), (73, 17), (74, 0), (75, 0), (76, 0), (77, 0), (78, 0), (79, 0), (80, 0)]
def L_X11_best : List (Nat × Nat) := [(0, 4), (0, 5), (6, 0), (28, 1), (28, 2), (28, 3), (28, 4), (29, 0), (42, 0), (73, 3), (73, 4), (73, 5), (73, 6), (73, 7), (73, 8), (73, 16), (73, 17), (74, 0), (75, 0), (76, 0), (77, 0), (78, 0), (79, 0), (80, 0)]
def L_X11_meanAhead : List (Nat × Nat) := [(0, 4), (0, 5), (6, 0), (42, 0), (73, 3), (73, 4), (73, 5), (73, 6), (73, 7), (73, 8), (73, 16), (73, 17), (74, 0), (75, 0), (76, 0), (77, 0), (78, 0), (79, 0), (80, 0)]
def L_X11_ahead : List (Nat × Nat) := [(0, 4), (0, 5), (6, 0), (42, 0), (73, 3), (73, 4), (73, 5), (73, 6), (73, 7), (73, 8), (73, 16), (73, 17), (74, 0), (75, 0), (76, 0), (77, 0), (78, 0), (79, 0), (80, 0)]
def L_X11_most : List (Nat × Nat) := [(0, 4), (0, 5), (6, 0), (42, 0), (73, 3), (73, 4), (73, 5), (73, 6), (73, 7), (73, 8), (73, 16), (73, 17), (74, 0), (75, 0), (76, 0), (77, 0), (78, 0), (79, 0), (80, 0)]
def L_X11_sell : List (Nat × Nat) := [(64, 9), (67, 0)]
def L_X11_see : List (Nat × Nat) := [(64, 11), (68, 0)]
def L_X11_was : List (Nat × Nat) := [(0, 4), (0, 5), (6, 0), (42, 0), (73, 3), (73, 4), (73, 5), (73, 6), (73, 7), (73, 8), (73, 16), (73, 17), (74, 0), (75, 0), (76, 0), (77, 0), (78, 0), (79, 0), (80, 0)]
def L_X11_years : List (Nat × Nat) := [(0, 4), (0, 5), (6, 0), (28, 1), (28, 2), (28, 3), (28, 4), (29, 0), (42, 0), (73, 3), (73, 4), (73, 5), (73, 6), (73, 7), (73, 8), (73, 16), (73, 17), (74, 0), (75, 0), (76, 0), (77, 0), (78, 0), (79, 0), (80, 0)]
def L_X11_fillGains : List (Nat × Nat) := [(0, 4), (0, 5), (6, 0), (28, 1), (28, 2), (28, 3), (28, 4), (29, 0), (35, 0), (42, 0), (73, 3), (73, 4), (73, 5), (73, 6), (73, 7), (73, 8), (73, 16), (73, 17), (74, 0), (75, 0), (76, 0), (77, 0), (78, 0), (79, 0), (80, 0)]
def L_X12_feed : List (Nat × Nat) := [(101, 1), (101, 2), (102, 0)]
def L_X12_nextToken : List (Nat × Nat) := [(101, 5), (101, 6), (101, 7), (101, 8), (101, 9)]
def L_X12_fails : List (Nat × Nat) := [(101, 10)]
def L_X12_plain : List (Nat × Nat) := [(103, 0), (119, 0), (120, 0), (121, 0)]
def L_X12_puts : List (Nat × Nat) := [(101, 31), (122, 0)]
def L_X12_reads : List (Nat × Nat) := [(101, 5), (101, 6), (101, 7), (101, 8), (101, 9), (101, 10), (101, 31), (122, 0), (123, 0), (124, 0)]
def L_X12_opens : List (Nat × Nat) := [(126, 0), (128, 0), (129, 0), (130, 0), (132, 0)]
def L_X12_sums : List (Nat × Nat) := [(129, 0), (132, 0)]
def L_X12_tests : List (Nat × Nat) := [(125, 0), (128, 0), (129, 0), (130, 0), (132, 0)]
def L_X12_worked : List (Nat × Nat) := [(125, 0), (126, 0), (127, 0), (128, 0), (129, 0), (130, 0), (131, 0), (132, 0), (133, 0)]
def L_X12_needsNumber : List (Nat × Nat) := [(101, 5), (101, 6), (101, 7), (101, 8), (101, 9), (101, 10), (101, 45)]
def L_X12_needsWord : List (Nat × Nat) := [(101, 5), (101, 6), (101, 7), (101, 8), (101, 9), (101, 10)]
def L_X12_needsBoth : List (Nat × Nat) := [(101, 5), (101, 6), (101, 7), (101, 8), (101, 9), (101, 10), (101, 45)]
def L_X12_closes : List (Nat × Nat) := [(101, 5), (101, 6), (101, 7), (101, 8), (101, 9), (101, 10)]
def L_X12_isNew : List (Nat × Nat) := [(101, 10)]
def L_X12_needsThing : List (Nat × Nat) := [(101, 10), (101, 45)]
def L_X12_isTwice : List (Nat × Nat) := [(101, 32)]
def L_X12_readsStop : List (Nat × Nat) := [(101, 5), (101, 6), (101, 7), (101, 8), (101, 9), (101, 10), (101, 32), (101, 45), (103, 0)]
def L_X12_readsCoach : List (Nat × Nat) := [(101, 5), (101, 6), (101, 7), (101, 8), (101, 9), (101, 10), (101, 45), (103, 0), (104, 0), (107, 0)]
def L_X12_readsThing : List (Nat × Nat) := [(101, 5), (101, 6), (101, 7), (101, 8), (101, 9), (101, 10), (101, 45), (103, 0), (105, 0), (108, 0), (109, 0), (110, 0), (111, 0), (112, 0)]
def L_X12_readsWants : List (Nat × Nat) := [(101, 5), (101, 6), (101, 7), (101, 8), (101, 9), (101, 10), (101, 45), (117, 0), (118, 0)]
def L_X12_readsBuyer : List (Nat × Nat) := [(101, 5), (101, 6), (101, 7), (101, 8), (101, 9), (101, 10), (101, 45), (103, 0), (106, 0), (113, 0), (114, 0), (115, 0), (116, 0), (117, 0), (118, 0)]
def L_X12_readsOne : List (Nat × Nat) := [(101, 5), (101, 6), (101, 7), (101, 8), (101, 9), (101, 10), (101, 32), (101, 45), (103, 0)]
def L_X12_readsLate : List (Nat × Nat) := [(101, 5), (101, 6), (101, 7), (101, 8), (101, 9), (101, 10), (101, 32), (101, 45), (119, 0)]
def L_X12_readsOrder : List (Nat × Nat) := [(101, 5), (101, 6), (101, 7), (101, 8), (101, 9), (101, 10), (101, 31), (120, 0), (121, 0), (122, 0), (123, 0), (124, 0)]
def L_X12_starts : List (Nat × Nat) := [(101, 2), (101, 4), (101, 5), (101, 6), (101, 7), (101, 8), (101, 9)]
def L_X12_readsAll : List (Nat × Nat) := [(101, 2), (101, 4), (101, 5), (101, 6), (101, 7), (101, 8), (101, 9), (101, 10), (101, 31), (101, 32), (101, 45), (103, 0), (104, 0), (105, 0), (106, 0), (107, 0), (108, 0), (109, 0), (110, 0), (111, 0), (112, 0), (113, 0), (114, 0), (115, 0), (116, 0), (117, 0), (118, 0), (119, 0), (120, 0), (121, 0), (122, 0), (123, 0), (124, 0)]
def L_X12_moves (v0 : Nat) : List (Nat × Nat) := [(v0, 0)]
def L_X12_movesNames (v0 : Nat) : List (Nat × Nat) := [(v0, 0)]
def L_X12_lays : List (Nat × Nat) := [(103, 0), (104, 0), (105, 0), (106, 0), (107, 0), (108, 0), (109, 0), (110, 0), (111, 0), (112, 0), (113, 0), (114, 0), (115, 0), (116, 0), (117, 0), (118, 0), (119, 0), (120, 0), (121, 0), (122, 0)]
def L_X12_copies (v2 : Nat) : List (Nat × Nat) := [(v2, 0)]
def L_X12_readsLine : List (Nat × Nat) := [(101, 5), (101, 6), (101, 7), (101, 8), (101, 9), (101, 10), (101, 45), (135, 0), (136, 0), (137, 0), (138, 0)]
def L_X12_laysLines : List (Nat × Nat) := [(135, 0), (136, 0), (137, 0), (138, 0)]
def L_X12_laysTold : List (Nat × Nat) := [(139, 0), (140, 0), (141, 0), (142, 0), (143, 0), (144, 0)]
def L_X12_fresh : List (Nat × Nat) := [(145, 0)]
def L_X12_junction : List (Nat × Nat) := [(101, 1), (101, 2), (101, 4), (101, 5), (101, 6), (101, 7), (101, 8), (101, 9), (101, 10), (101, 31), (101, 32), (101, 45), (101, 61), (103, 0), (104, 0), (105, 0), (106, 0), (107, 0), (108, 0), (109, 0), (110, 0), (111, 0), (112, 0), (113, 0), (114, 0), (115, 0), (116, 0), (117, 0), (118, 0), (119, 0), (120, 0), (121, 0), (122, 0), (123, 0), (124, 0), (135, 0), (139, 0), (142, 0), (145, 0), (149, 0)]
def L_X12_days : List (Nat × Nat) := [(101, 1), (101, 2), (101, 4), (101, 5), (101, 6), (101, 7), (101, 8), (101, 9), (101, 10), (101, 45), (135, 0), (136, 0), (137, 0), (138, 0)]
def L_X12_lastsFor : List (Nat × Nat) := [(101, 66), (155, 0)]
def L_X12_orderOf : List (Nat × Nat) := [(125, 0), (126, 0), (127, 0), (128, 0), (129, 0), (130, 0), (131, 0), (132, 0), (133, 0), (134, 0)]
def L_X12_nextAt : List (Nat × Nat) := [(125, 0), (126, 0), (127, 0), (128, 0), (129, 0), (130, 0), (131, 0), (132, 0), (133, 0), (134, 0)]
def L_X12_drinks : List (Nat × Nat) := [(152, 0), (153, 0), (154, 0)]
def L_X12_runs : List (Nat × Nat) := [(101, 66), (125, 0), (126, 0), (127, 0), (128, 0), (129, 0), (130, 0), (131, 0), (132, 0), (133, 0), (134, 0), (150, 0), (151, 0), (152, 0), (153, 0), (154, 0), (155, 0), (156, 0)]
def L_X12_thing : List (Nat × Nat) := [(101, 1)]
def L_X12_buyer : List (Nat × Nat) := [(101, 1)]
def L_X12_keeps : List (Nat × Nat) := [(101, 61), (148, 0)]
def L_X12_changes : List (Nat × Nat) := [(101, 61), (145, 0), (148, 0)]
def L_X12_out : List (Nat × Nat) := [(101, 1), (101, 61), (145, 0), (148, 0)]
def L_X12_set : List (Nat × Nat) := [(101, 1), (101, 61), (145, 0), (148, 0)]
def L_X12_heats : List (Nat × Nat) := [(101, 1), (101, 61), (145, 0), (148, 0)]
def L_X12_undo : List (Nat × Nat) := [(101, 1), (101, 61), (145, 0)]
def L_X12_goes : List (Nat × Nat) := [(101, 61), (101, 66), (101, 75), (101, 76), (125, 0), (126, 0), (127, 0), (128, 0), (129, 0), (130, 0), (131, 0), (132, 0), (133, 0), (134, 0), (145, 0), (148, 0), (150, 0), (151, 0), (152, 0), (153, 0), (154, 0), (155, 0), (156, 0)]
def L_X12_judged : List (Nat × Nat) := [(101, 1), (101, 61), (101, 66), (101, 75), (101, 76), (125, 0), (126, 0), (127, 0), (128, 0), (129, 0), (130, 0), (131, 0), (132, 0), (133, 0), (134, 0), (145, 0), (146, 0), (148, 0), (150, 0), (151, 0), (152, 0), (153, 0), (154, 0), (155, 0), (156, 0)]
def L_X12_served : List (Nat × Nat) := [(101, 1), (101, 66), (125, 0), (126, 0), (127, 0), (128, 0), (129, 0), (130, 0), (131, 0), (132, 0), (133, 0), (134, 0), (150, 0), (151, 0), (152, 0), (153, 0), (154, 0), (155, 0), (156, 0)]
def L_X12_round : List (Nat × Nat) := [(101, 1), (101, 66), (125, 0), (126, 0), (127, 0), (128, 0), (129, 0), (130, 0), (131, 0), (132, 0), (133, 0), (134, 0), (150, 0), (151, 0), (152, 0), (153, 0), (154, 0), (155, 0), (156, 0)]
def L_X12_chance : List (Nat × Nat) := [(101, 1), (101, 66), (125, 0), (126, 0), (127, 0), (128, 0), (129, 0), (130, 0), (131, 0), (132, 0), (133, 0), (134, 0), (145, 0), (150, 0), (151, 0), (152, 0), (153, 0), (154, 0), (155, 0), (156, 0)]
def L_X12_rests : List (Nat × Nat) := [(101, 1), (101, 66), (125, 0), (126, 0), (127, 0), (128, 0), (129, 0), (130, 0), (131, 0), (132, 0), (133, 0), (134, 0), (145, 0), (150, 0), (151, 0), (152, 0), (153, 0), (154, 0), (155, 0), (156, 0), (157, 0)]
def L_X12_errand : List (Nat × Nat) := [(101, 1), (101, 63), (101, 64), (101, 66), (125, 0), (126, 0), (127, 0), (128, 0), (129, 0), (130, 0), (131, 0), (132, 0), (133, 0), (134, 0), (145, 0), (150, 0), (151, 0), (152, 0), (153, 0), (154, 0), (155, 0), (156, 0)]
def L_X12_table : List (Nat × Nat) := [(101, 1), (101, 62), (101, 66), (125, 0), (126, 0), (127, 0), (128, 0), (129, 0), (130, 0), (131, 0), (132, 0), (133, 0), (134, 0), (145, 0), (150, 0), (151, 0), (152, 0), (153, 0), (154, 0), (155, 0), (156, 0)]
def L_X12_stand : List (Nat × Nat) := [(101, 1), (101, 66), (125, 0), (126, 0), (127, 0), (128, 0), (129, 0), (130, 0), (131, 0), (132, 0), (133, 0), (134, 0), (145, 0), (150, 0), (151, 0), (152, 0), (153, 0), (154, 0), (155, 0), (156, 0)]
def L_X12_ring : List (Nat × Nat) := [(101, 1), (101, 66), (125, 0), (126, 0), (127, 0), (128, 0), (129, 0), (130, 0), (131, 0), (132, 0), (133, 0), (134, 0), (145, 0), (150, 0), (151, 0), (152, 0), (153, 0), (154, 0), (155, 0), (156, 0)]
def L_X12_best : List (Nat × Nat) := [(101, 1), (101, 66), (125, 0), (126, 0), (127, 0), (128, 0), (129, 0), (130, 0), (131, 0), (132, 0), (133, 0), (134, 0), (145, 0), (150, 0), (151, 0), (152, 0), (153, 0), (154, 0), (155, 0), (156, 0)]
def L_X12_tray : List (Nat × Nat) := [(101, 1)]
def L_X12_price : List (Nat × Nat) := [(101, 1)]
def L_X12_aheadOf : List (Nat × Nat) := [(101, 65), (101, 66), (101, 67), (125, 0), (126, 0), (127, 0), (128, 0), (129, 0), (130, 0), (131, 0), (132, 0), (133, 0), (134, 0), (150, 0), (151, 0), (152, 0), (153, 0), (154, 0), (155, 0), (156, 0)]
def L_X12_ahead : List (Nat × Nat) := [(101, 1), (101, 65), (101, 66), (101, 67), (125, 0), (126, 0), (127, 0), (128, 0), (129, 0), (130, 0), (131, 0), (132, 0), (133, 0), (134, 0), (150, 0), (151, 0), (152, 0), (153, 0), (154, 0), (155, 0), (156, 0)]
def L_X12_most : List (Nat × Nat) := [(101, 1), (101, 65), (101, 66), (101, 67), (125, 0), (126, 0), (127, 0), (128, 0), (129, 0), (130, 0), (131, 0), (132, 0), (133, 0), (134, 0), (150, 0), (151, 0), (152, 0), (153, 0), (154, 0), (155, 0), (156, 0)]
def L_X12_sell : List (Nat × Nat) := [(101, 1), (139, 0), (140, 0), (141, 0)]
def L_X12_laws : List (Nat × Nat) := [(101, 1)]
def L_X12_see : List (Nat × Nat) := [(101, 1), (142, 0), (143, 0), (144, 0)]
def L_X12_was : List (Nat × Nat) := [(101, 1), (101, 66), (125, 0), (126, 0), (127, 0), (128, 0), (129, 0), (130, 0), (131, 0), (132, 0), (133, 0), (134, 0), (150, 0), (151, 0), (152, 0), (153, 0), (154, 0), (155, 0), (156, 0)]
def L_X12_draws : List (Nat × Nat) := [(101, 78)]
def L_X12_years : List (Nat × Nat) := [(101, 1), (101, 66), (101, 78), (125, 0), (126, 0), (127, 0), (128, 0), (129, 0), (130, 0), (131, 0), (132, 0), (133, 0), (134, 0), (145, 0), (150, 0), (151, 0), (152, 0), (153, 0), (154, 0), (155, 0), (156, 0)]
def L_X12_mark : List (Nat × Nat) := [(101, 1), (101, 61), (135, 0), (136, 0), (137, 0), (138, 0), (139, 0), (140, 0), (141, 0), (142, 0), (143, 0), (144, 0), (145, 0), (147, 0), (149, 0)]
def L_X12_count : List (Nat × Nat) := [(101, 1)]
set_option maxRecDepth 20000 in
theorem ws_X8_step_X8_stepNumber : wsub L_X8_stepNumber L_X8_step = true := by decide +kernel
set_option maxRecDepth 20000 in
theorem ws_X8_step_X8_stepWord : wsub L_X8_stepWord L_X8_step = true := by decide +kernel
set_option maxRecDepth 20000 in
theorem ws_X8_rewind_X8_step : wsub L_X8_step L_X8_rewind = true := by decide +kernel
set_option maxRecDepth 20000 in
theorem ws_X8_takeSign_X8_fail : wsub L_X8_fail L_X8_takeSign = true := by decide +kernel
set_option maxRecDepth 20000 in
theorem ws_X8_takeSign_X8_step : wsub L_X8_step L_X8_takeSign = true := by decide +kernel
set_option maxRecDepth 20000 in
theorem ws_X8_takeNumber_X8_fail : wsub L_X8_fail L_X8_takeNumber = true := by decide +kernel
set_option maxRecDepth 20000 in
theorem ws_X8_takeNumber_X8_step : wsub L_X8_step L_X8_takeNumber = true := by decide +kernel
set_option maxRecDepth 20000 in
theorem ws_X8_takeKnown_X8_fail : wsub L_X8_fail L_X8_takeKnown = true := by decide +kernel
set_option maxRecDepth 20000 in
theorem ws_X8_takeKnown_X8_step : wsub L_X8_step L_X8_takeKnown = true := by decide +kernel
set_option maxRecDepth 20000 in
theorem ws_X1_readLine_X1_keepLine : wsub L_X1_keepLine L_X1_readLine = true := by decide +kernel
set_option maxRecDepth 20000 in
theorem ws_X1_readLine_X8_takeSign : wsub L_X8_takeSign L_X1_readLine = true := by decide +kernel
set_option maxRecDepth 20000 in
theorem ws_X1_readLine_X8_takeKnown : wsub L_X8_takeKnown L_X1_readLine = true := by decide +kernel
set_option maxRecDepth 20000 in
theorem ws_X1_readLine_X8_takeNumber : wsub L_X8_takeNumber L_X1_readLine = true := by decide +kernel
set_option maxRecDepth 20000 in
theorem ws_X1_readLine_X8_fail : wsub L_X8_fail L_X1_readLine = true := by decide +kernel
set_option maxRecDepth 20000 in
theorem ws_X1_readLine_X8_step : wsub L_X8_step L_X1_readLine = true := by decide +kernel
set_option maxRecDepth 20000 in
theorem ws_X1_read_X8_finish : wsub L_X8_finish L_X1_read = true := by decide +kernel
set_option maxRecDepth 20000 in
theorem ws_X1_read_X1_readLine : wsub L_X1_readLine L_X1_read = true := by decide +kernel
set_option maxRecDepth 20000 in
theorem ws_X1_read_X8_rewind : wsub L_X8_rewind L_X1_read = true := by decide +kernel
set_option maxRecDepth 20000 in
theorem ws_X8_take_X8_step : wsub L_X8_step L_X8_take = true := by decide +kernel
set_option maxRecDepth 20000 in
theorem ws_X8_take_X8_fail : wsub L_X8_fail L_X8_take = true := by decide +kernel
set_option maxRecDepth 20000 in
theorem ws_X8_takeOneOf_X8_take : wsub L_X8_take L_X8_takeOneOf = true := by decide +kernel
set_option maxRecDepth 20000 in
theorem ws_X6_nextServed_X6_rankOf : wsub L_X6_rankOf L_X6_nextServed = true := by decide +kernel
set_option maxRecDepth 20000 in
theorem ws_X6_serveWaiting_X6_nextServed : wsub L_X6_nextServed L_X6_serveWaiting = true := by decide +kernel
set_option maxRecDepth 20000 in
theorem ws_X6_serveWaiting_X6_begin : wsub L_X6_begin L_X6_serveWaiting = true := by decide +kernel
set_option maxRecDepth 20000 in
theorem ws_X6_endFor_X6_drink : wsub L_X6_drink L_X6_endFor = true := by decide +kernel
set_option maxRecDepth 20000 in
theorem ws_X6_play_X6_serveWaiting : wsub L_X6_serveWaiting L_X6_play = true := by decide +kernel
set_option maxRecDepth 20000 in
theorem ws_X6_play_X6_endFor : wsub L_X6_endFor L_X6_play = true := by decide +kernel
set_option maxRecDepth 20000 in
theorem ws_X6_play_X6_makeReady : wsub L_X6_makeReady L_X6_play = true := by decide +kernel
set_option maxRecDepth 20000 in
theorem ws_X11_feed_X8_append : wsub L_X8_append L_X11_feed = true := by decide +kernel
set_option maxRecDepth 20000 in
theorem ws_X11_days_X1_read : wsub L_X1_read L_X11_days = true := by decide +kernel
set_option maxRecDepth 20000 in
theorem ws_X11_out_X11_changeByHand : wsub L_X11_changeByHand L_X11_out = true := by decide +kernel
set_option maxRecDepth 20000 in
theorem ws_X11_set_X11_changeByHand : wsub L_X11_changeByHand L_X11_set = true := by decide +kernel
set_option maxRecDepth 20000 in
theorem ws_X11_heats_X11_changeByHand : wsub L_X11_changeByHand L_X11_heats = true := by decide +kernel
set_option maxRecDepth 20000 in
theorem ws_X11_playTrial_X6_layOut : wsub L_X6_layOut L_X11_playTrial = true := by decide +kernel
set_option maxRecDepth 20000 in
theorem ws_X11_playTrial_X6_play : wsub L_X6_play L_X11_playTrial = true := by decide +kernel
set_option maxRecDepth 20000 in
theorem ws_X11_judged_X11_playTrial : wsub L_X11_playTrial L_X11_judged = true := by decide +kernel
set_option maxRecDepth 20000 in
theorem ws_X11_playNow_X6_layOut : wsub L_X6_layOut L_X11_playNow = true := by decide +kernel
set_option maxRecDepth 20000 in
theorem ws_X11_playNow_X6_play : wsub L_X6_play L_X11_playNow = true := by decide +kernel
set_option maxRecDepth 20000 in
theorem ws_X11_served_X11_playNow : wsub L_X11_playNow L_X11_served = true := by decide +kernel
set_option maxRecDepth 20000 in
theorem ws_X11_round_X11_playNow : wsub L_X11_playNow L_X11_round = true := by decide +kernel
set_option maxRecDepth 20000 in
theorem ws_X11_chance_X11_playTrial : wsub L_X11_playTrial L_X11_chance = true := by decide +kernel
set_option maxRecDepth 20000 in
theorem ws_X11_errandSecond_X6_layOut : wsub L_X6_layOut L_X11_errandSecond = true := by decide +kernel
set_option maxRecDepth 20000 in
theorem ws_X11_errandSecond_X6_play : wsub L_X6_play L_X11_errandSecond = true := by decide +kernel
set_option maxRecDepth 20000 in
theorem ws_X11_errand_X11_errandSecond : wsub L_X11_errandSecond L_X11_errand = true := by decide +kernel
set_option maxRecDepth 20000 in
theorem ws_X11_table_X6_layOut : wsub L_X6_layOut L_X11_table = true := by decide +kernel
set_option maxRecDepth 20000 in
theorem ws_X11_table_X6_play : wsub L_X6_play L_X11_table = true := by decide +kernel
set_option maxRecDepth 20000 in
theorem ws_X11_stand_X11_playTrial : wsub L_X11_playTrial L_X11_stand = true := by decide +kernel
set_option maxRecDepth 20000 in
theorem ws_X11_ring_X11_playTrial : wsub L_X11_playTrial L_X11_ring = true := by decide +kernel
set_option maxRecDepth 20000 in
theorem ws_X11_best_X11_playTrial : wsub L_X11_playTrial L_X11_best = true := by decide +kernel
set_option maxRecDepth 20000 in
theorem ws_X11_meanAhead_X6_layOut : wsub L_X6_layOut L_X11_meanAhead = true := by decide +kernel
set_option maxRecDepth 20000 in
theorem ws_X11_meanAhead_X6_play : wsub L_X6_play L_X11_meanAhead = true := by decide +kernel
set_option maxRecDepth 20000 in
theorem ws_X11_ahead_X11_meanAhead : wsub L_X11_meanAhead L_X11_ahead = true := by decide +kernel
set_option maxRecDepth 20000 in
theorem ws_X11_most_X11_meanAhead : wsub L_X11_meanAhead L_X11_most = true := by decide +kernel
set_option maxRecDepth 20000 in
theorem ws_X11_was_X11_playNow : wsub L_X11_playNow L_X11_was = true := by decide +kernel
set_option maxRecDepth 20000 in
theorem ws_X11_years_X11_playTrial : wsub L_X11_playTrial L_X11_years = true := by decide +kernel
set_option maxRecDepth 20000 in
theorem ws_X11_fillGains_X11_playTrial : wsub L_X11_playTrial L_X11_fillGains = true := by decide +kernel
set_option maxRecDepth 20000 in
theorem ws_X12_reads_X12_nextToken : wsub L_X12_nextToken L_X12_reads = true := by decide +kernel
set_option maxRecDepth 20000 in
theorem ws_X12_reads_X12_puts : wsub L_X12_puts L_X12_reads = true := by decide +kernel
set_option maxRecDepth 20000 in
theorem ws_X12_reads_X12_fails : wsub L_X12_fails L_X12_reads = true := by decide +kernel
set_option maxRecDepth 20000 in
theorem ws_X12_tests_X12_sums : wsub L_X12_sums L_X12_tests = true := by decide +kernel
set_option maxRecDepth 20000 in
theorem ws_X12_worked_X12_opens : wsub L_X12_opens L_X12_worked = true := by decide +kernel
set_option maxRecDepth 20000 in
theorem ws_X12_worked_X12_sums : wsub L_X12_sums L_X12_worked = true := by decide +kernel
set_option maxRecDepth 20000 in
theorem ws_X12_worked_X12_tests : wsub L_X12_tests L_X12_worked = true := by decide +kernel
set_option maxRecDepth 20000 in
theorem ws_X12_needsNumber_X12_fails : wsub L_X12_fails L_X12_needsNumber = true := by decide +kernel
set_option maxRecDepth 20000 in
theorem ws_X12_needsNumber_X12_nextToken : wsub L_X12_nextToken L_X12_needsNumber = true := by decide +kernel
set_option maxRecDepth 20000 in
theorem ws_X12_needsWord_X12_fails : wsub L_X12_fails L_X12_needsWord = true := by decide +kernel
set_option maxRecDepth 20000 in
theorem ws_X12_needsWord_X12_nextToken : wsub L_X12_nextToken L_X12_needsWord = true := by decide +kernel
set_option maxRecDepth 20000 in
theorem ws_X12_needsBoth_X12_needsWord : wsub L_X12_needsWord L_X12_needsBoth = true := by decide +kernel
set_option maxRecDepth 20000 in
theorem ws_X12_needsBoth_X12_needsNumber : wsub L_X12_needsNumber L_X12_needsBoth = true := by decide +kernel
set_option maxRecDepth 20000 in
theorem ws_X12_closes_X12_fails : wsub L_X12_fails L_X12_closes = true := by decide +kernel
set_option maxRecDepth 20000 in
theorem ws_X12_closes_X12_nextToken : wsub L_X12_nextToken L_X12_closes = true := by decide +kernel
set_option maxRecDepth 20000 in
theorem ws_X12_isNew_X12_fails : wsub L_X12_fails L_X12_isNew = true := by decide +kernel
set_option maxRecDepth 20000 in
theorem ws_X12_needsThing_X12_fails : wsub L_X12_fails L_X12_needsThing = true := by decide +kernel
set_option maxRecDepth 20000 in
theorem ws_X12_readsStop_X12_isTwice : wsub L_X12_isTwice L_X12_readsStop = true := by decide +kernel
set_option maxRecDepth 20000 in
theorem ws_X12_readsStop_X12_nextToken : wsub L_X12_nextToken L_X12_readsStop = true := by decide +kernel
set_option maxRecDepth 20000 in
theorem ws_X12_readsStop_X12_needsNumber : wsub L_X12_needsNumber L_X12_readsStop = true := by decide +kernel
set_option maxRecDepth 20000 in
theorem ws_X12_readsStop_X12_needsBoth : wsub L_X12_needsBoth L_X12_readsStop = true := by decide +kernel
set_option maxRecDepth 20000 in
theorem ws_X12_readsStop_X12_closes : wsub L_X12_closes L_X12_readsStop = true := by decide +kernel
set_option maxRecDepth 20000 in
theorem ws_X12_readsStop_X12_fails : wsub L_X12_fails L_X12_readsStop = true := by decide +kernel
set_option maxRecDepth 20000 in
theorem ws_X12_readsCoach_X12_fails : wsub L_X12_fails L_X12_readsCoach = true := by decide +kernel
set_option maxRecDepth 20000 in
theorem ws_X12_readsCoach_X12_nextToken : wsub L_X12_nextToken L_X12_readsCoach = true := by decide +kernel
set_option maxRecDepth 20000 in
theorem ws_X12_readsCoach_X12_isNew : wsub L_X12_isNew L_X12_readsCoach = true := by decide +kernel
set_option maxRecDepth 20000 in
theorem ws_X12_readsCoach_X12_needsBoth : wsub L_X12_needsBoth L_X12_readsCoach = true := by decide +kernel
set_option maxRecDepth 20000 in
theorem ws_X12_readsCoach_X12_closes : wsub L_X12_closes L_X12_readsCoach = true := by decide +kernel
set_option maxRecDepth 20000 in
theorem ws_X12_readsThing_X12_nextToken : wsub L_X12_nextToken L_X12_readsThing = true := by decide +kernel
set_option maxRecDepth 20000 in
theorem ws_X12_readsThing_X12_needsBoth : wsub L_X12_needsBoth L_X12_readsThing = true := by decide +kernel
set_option maxRecDepth 20000 in
theorem ws_X12_readsThing_X12_closes : wsub L_X12_closes L_X12_readsThing = true := by decide +kernel
set_option maxRecDepth 20000 in
theorem ws_X12_readsThing_X12_fails : wsub L_X12_fails L_X12_readsThing = true := by decide +kernel
set_option maxRecDepth 20000 in
theorem ws_X12_readsThing_X12_isNew : wsub L_X12_isNew L_X12_readsThing = true := by decide +kernel
set_option maxRecDepth 20000 in
theorem ws_X12_readsWants_X12_needsThing : wsub L_X12_needsThing L_X12_readsWants = true := by decide +kernel
set_option maxRecDepth 20000 in
theorem ws_X12_readsWants_X12_fails : wsub L_X12_fails L_X12_readsWants = true := by decide +kernel
set_option maxRecDepth 20000 in
theorem ws_X12_readsWants_X12_nextToken : wsub L_X12_nextToken L_X12_readsWants = true := by decide +kernel
set_option maxRecDepth 20000 in
theorem ws_X12_readsBuyer_X12_nextToken : wsub L_X12_nextToken L_X12_readsBuyer = true := by decide +kernel
set_option maxRecDepth 20000 in
theorem ws_X12_readsBuyer_X12_needsWord : wsub L_X12_needsWord L_X12_readsBuyer = true := by decide +kernel
set_option maxRecDepth 20000 in
theorem ws_X12_readsBuyer_X12_needsBoth : wsub L_X12_needsBoth L_X12_readsBuyer = true := by decide +kernel
set_option maxRecDepth 20000 in
theorem ws_X12_readsBuyer_X12_readsWants : wsub L_X12_readsWants L_X12_readsBuyer = true := by decide +kernel
set_option maxRecDepth 20000 in
theorem ws_X12_readsBuyer_X12_closes : wsub L_X12_closes L_X12_readsBuyer = true := by decide +kernel
set_option maxRecDepth 20000 in
theorem ws_X12_readsBuyer_X12_fails : wsub L_X12_fails L_X12_readsBuyer = true := by decide +kernel
set_option maxRecDepth 20000 in
theorem ws_X12_readsBuyer_X12_isNew : wsub L_X12_isNew L_X12_readsBuyer = true := by decide +kernel
set_option maxRecDepth 20000 in
theorem ws_X12_readsOne_X12_isTwice : wsub L_X12_isTwice L_X12_readsOne = true := by decide +kernel
set_option maxRecDepth 20000 in
theorem ws_X12_readsOne_X12_nextToken : wsub L_X12_nextToken L_X12_readsOne = true := by decide +kernel
set_option maxRecDepth 20000 in
theorem ws_X12_readsOne_X12_needsNumber : wsub L_X12_needsNumber L_X12_readsOne = true := by decide +kernel
set_option maxRecDepth 20000 in
theorem ws_X12_readsOne_X12_closes : wsub L_X12_closes L_X12_readsOne = true := by decide +kernel
set_option maxRecDepth 20000 in
theorem ws_X12_readsOne_X12_fails : wsub L_X12_fails L_X12_readsOne = true := by decide +kernel
set_option maxRecDepth 20000 in
theorem ws_X12_readsLate_X12_needsNumber : wsub L_X12_needsNumber L_X12_readsLate = true := by decide +kernel
set_option maxRecDepth 20000 in
theorem ws_X12_readsLate_X12_closes : wsub L_X12_closes L_X12_readsLate = true := by decide +kernel
set_option maxRecDepth 20000 in
theorem ws_X12_readsLate_X12_isTwice : wsub L_X12_isTwice L_X12_readsLate = true := by decide +kernel
set_option maxRecDepth 20000 in
theorem ws_X12_readsLate_X12_nextToken : wsub L_X12_nextToken L_X12_readsLate = true := by decide +kernel
set_option maxRecDepth 20000 in
theorem ws_X12_readsLate_X12_fails : wsub L_X12_fails L_X12_readsLate = true := by decide +kernel
set_option maxRecDepth 20000 in
theorem ws_X12_readsOrder_X12_nextToken : wsub L_X12_nextToken L_X12_readsOrder = true := by decide +kernel
set_option maxRecDepth 20000 in
theorem ws_X12_readsOrder_X12_reads : wsub L_X12_reads L_X12_readsOrder = true := by decide +kernel
set_option maxRecDepth 20000 in
theorem ws_X12_readsOrder_X12_fails : wsub L_X12_fails L_X12_readsOrder = true := by decide +kernel
set_option maxRecDepth 20000 in
theorem ws_X12_starts_X12_nextToken : wsub L_X12_nextToken L_X12_starts = true := by decide +kernel
set_option maxRecDepth 20000 in
theorem ws_X12_readsAll_X12_fails : wsub L_X12_fails L_X12_readsAll = true := by decide +kernel
set_option maxRecDepth 20000 in
theorem ws_X12_readsAll_X12_readsOrder : wsub L_X12_readsOrder L_X12_readsAll = true := by decide +kernel
set_option maxRecDepth 20000 in
theorem ws_X12_readsAll_X12_readsLate : wsub L_X12_readsLate L_X12_readsAll = true := by decide +kernel
set_option maxRecDepth 20000 in
theorem ws_X12_readsAll_X12_readsOne : wsub L_X12_readsOne L_X12_readsAll = true := by decide +kernel
set_option maxRecDepth 20000 in
theorem ws_X12_readsAll_X12_readsBuyer : wsub L_X12_readsBuyer L_X12_readsAll = true := by decide +kernel
set_option maxRecDepth 20000 in
theorem ws_X12_readsAll_X12_readsThing : wsub L_X12_readsThing L_X12_readsAll = true := by decide +kernel
set_option maxRecDepth 20000 in
theorem ws_X12_readsAll_X12_readsCoach : wsub L_X12_readsCoach L_X12_readsAll = true := by decide +kernel
set_option maxRecDepth 20000 in
theorem ws_X12_readsAll_X12_readsStop : wsub L_X12_readsStop L_X12_readsAll = true := by decide +kernel
set_option maxRecDepth 20000 in
theorem ws_X12_readsAll_X12_plain : wsub L_X12_plain L_X12_readsAll = true := by decide +kernel
set_option maxRecDepth 20000 in
theorem ws_X12_readsAll_X12_starts : wsub L_X12_starts L_X12_readsAll = true := by decide +kernel
set_option maxRecDepth 20000 in
theorem ws_X12_readsLine_X12_closes : wsub L_X12_closes L_X12_readsLine = true := by decide +kernel
set_option maxRecDepth 20000 in
theorem ws_X12_readsLine_X12_needsNumber : wsub L_X12_needsNumber L_X12_readsLine = true := by decide +kernel
set_option maxRecDepth 20000 in
theorem ws_X12_readsLine_X12_fails : wsub L_X12_fails L_X12_readsLine = true := by decide +kernel
set_option maxRecDepth 20000 in
theorem ws_X12_readsLine_X12_nextToken : wsub L_X12_nextToken L_X12_readsLine = true := by decide +kernel
set_option maxRecDepth 20000 in
theorem ws_X12_readsLine_X12_needsThing : wsub L_X12_needsThing L_X12_readsLine = true := by decide +kernel
set_option maxRecDepth 20000 in
theorem ws_X12_junction_X12_readsAll : wsub L_X12_readsAll L_X12_junction = true := by decide +kernel
set_option maxRecDepth 20000 in
theorem ws_X12_junction_X12_lays : wsub L_X12_lays L_X12_junction = true := by decide +kernel
set_option maxRecDepth 20000 in
theorem ws_X12_junction_X12_fresh : wsub L_X12_fresh L_X12_junction = true := by decide +kernel
set_option maxRecDepth 20000 in
theorem ws_X12_days_X12_readsLine : wsub L_X12_readsLine L_X12_days = true := by decide +kernel
set_option maxRecDepth 20000 in
theorem ws_X12_days_X12_starts : wsub L_X12_starts L_X12_days = true := by decide +kernel
set_option maxRecDepth 20000 in
theorem ws_X12_days_X12_laysLines : wsub L_X12_laysLines L_X12_days = true := by decide +kernel
set_option maxRecDepth 20000 in
theorem ws_X12_orderOf_X12_worked : wsub L_X12_worked L_X12_orderOf = true := by decide +kernel
set_option maxRecDepth 20000 in
theorem ws_X12_nextAt_X12_orderOf : wsub L_X12_orderOf L_X12_nextAt = true := by decide +kernel
set_option maxRecDepth 20000 in
theorem ws_X12_runs_X12_nextAt : wsub L_X12_nextAt L_X12_runs = true := by decide +kernel
set_option maxRecDepth 20000 in
theorem ws_X12_runs_X12_lastsFor : wsub L_X12_lastsFor L_X12_runs = true := by decide +kernel
set_option maxRecDepth 20000 in
theorem ws_X12_runs_X12_drinks : wsub L_X12_drinks L_X12_runs = true := by decide +kernel
set_option maxRecDepth 20000 in
theorem ws_X12_changes_X12_keeps : wsub L_X12_keeps L_X12_changes = true := by decide +kernel
set_option maxRecDepth 20000 in
theorem ws_X12_out_X12_changes : wsub L_X12_changes L_X12_out = true := by decide +kernel
set_option maxRecDepth 20000 in
theorem ws_X12_set_X12_changes : wsub L_X12_changes L_X12_set = true := by decide +kernel
set_option maxRecDepth 20000 in
theorem ws_X12_heats_X12_changes : wsub L_X12_changes L_X12_heats = true := by decide +kernel
set_option maxRecDepth 20000 in
theorem ws_X12_goes_X12_changes : wsub L_X12_changes L_X12_goes = true := by decide +kernel
set_option maxRecDepth 20000 in
theorem ws_X12_goes_X12_runs : wsub L_X12_runs L_X12_goes = true := by decide +kernel
set_option maxRecDepth 20000 in
theorem ws_X12_judged_X12_goes : wsub L_X12_goes L_X12_judged = true := by decide +kernel
set_option maxRecDepth 20000 in
theorem ws_X12_judged_X12_fresh : wsub L_X12_fresh L_X12_judged = true := by decide +kernel
set_option maxRecDepth 20000 in
theorem ws_X12_served_X12_runs : wsub L_X12_runs L_X12_served = true := by decide +kernel
set_option maxRecDepth 20000 in
theorem ws_X12_round_X12_runs : wsub L_X12_runs L_X12_round = true := by decide +kernel
set_option maxRecDepth 20000 in
theorem ws_X12_chance_X12_runs : wsub L_X12_runs L_X12_chance = true := by decide +kernel
set_option maxRecDepth 20000 in
theorem ws_X12_rests_X12_runs : wsub L_X12_runs L_X12_rests = true := by decide +kernel
set_option maxRecDepth 20000 in
theorem ws_X12_errand_X12_runs : wsub L_X12_runs L_X12_errand = true := by decide +kernel
set_option maxRecDepth 20000 in
theorem ws_X12_table_X12_runs : wsub L_X12_runs L_X12_table = true := by decide +kernel
set_option maxRecDepth 20000 in
theorem ws_X12_stand_X12_runs : wsub L_X12_runs L_X12_stand = true := by decide +kernel
set_option maxRecDepth 20000 in
theorem ws_X12_ring_X12_runs : wsub L_X12_runs L_X12_ring = true := by decide +kernel
set_option maxRecDepth 20000 in
theorem ws_X12_best_X12_runs : wsub L_X12_runs L_X12_best = true := by decide +kernel
set_option maxRecDepth 20000 in
theorem ws_X12_aheadOf_X12_runs : wsub L_X12_runs L_X12_aheadOf = true := by decide +kernel
set_option maxRecDepth 20000 in
theorem ws_X12_ahead_X12_aheadOf : wsub L_X12_aheadOf L_X12_ahead = true := by decide +kernel
set_option maxRecDepth 20000 in
theorem ws_X12_most_X12_aheadOf : wsub L_X12_aheadOf L_X12_most = true := by decide +kernel
set_option maxRecDepth 20000 in
theorem ws_X12_was_X12_runs : wsub L_X12_runs L_X12_was = true := by decide +kernel
set_option maxRecDepth 20000 in
theorem ws_X12_years_X12_draws : wsub L_X12_draws L_X12_years = true := by decide +kernel
set_option maxRecDepth 20000 in
theorem ws_X12_years_X12_runs : wsub L_X12_runs L_X12_years = true := by decide +kernel
set_option maxRecDepth 20000 in
theorem ws_X12_mark_X12_laysLines : wsub L_X12_laysLines L_X12_mark = true := by decide +kernel
set_option maxRecDepth 20000 in
theorem ws_X12_mark_X12_laysTold : wsub L_X12_laysTold L_X12_mark = true := by decide +kernel
