/-! The line of a thing, of both -/
theorem bnd_as {α β γ : Type} (x : Option α) (f : α → Option β) (g : β → Option γ) : bnd (bnd x f) g = bnd x (fun y => bnd (f y) g) := by
  cases x <;> rfl
theorem bnd_as2 {α σ β γ : Type} (x : Option (α × σ)) (f : α → σ → Option β) (g : β → Option γ) : bnd (bnd2 x f) g = bnd2 x (fun a b => bnd (f a b) g) := by
  rcases x with _ | ⟨a, b⟩ <;> rfl
theorem bnd_gd {β γ : Type} (b : Bool) (x : Option β) (g : β → Option γ) : bnd (gd b x) g = gd b (bnd x g) := by
  cases b <;> rfl
theorem bnd_if {β γ : Type} (c : Prop) [Decidable c] (x y : Option β) (g : β → Option γ) : bnd (if c then x else y) g = if c then bnd x g else bnd y g := by
  split <;> rfl
section THING
variable {p L c h n : Nat} {s t : HS}
theorem DR.same {s' t' : HS} (hp : okX4 p = true) (D : DR p c h n s t) (a : Wc [] [] s s') (b : Wm [] [] t t') : DR p c h n s' t' := by
  obtain ⟨d1, d2, d3⟩ := D
  have q := p36 hp
  have e : ∀ k, k < 26 → ∀ j, s'.1 (p + k) j = s.1 (p + k) j ∧ s'.2.1 (p + k) j = s.2.1 (p + k) j := fun k hk j => ⟨a.1 _ _ (by have := q k hk; omega), a.2 _ _ (by have := q k hk; omega)⟩
  have e0 : ∀ j, s'.1 p j = s.1 p j := fun j => (e 0 (by omega) j).1
  have m : ∀ o j, o ≠ 101 → t'.1 o j = t.1 o j ∧ t'.2.1 o j = t.2.1 o j := fun o j ho => ⟨b.1 _ _ (fun z => ho z.1), b.2 _ _ (fun z => ho z.1)⟩
  refine ⟨?_, ?_, ?_⟩
  · unfold CNT
    rw [e0, e0, e0, (m 103 _ (by decide)).1, (m 103 _ (by decide)).1, (m 103 _ (by decide)).1]; exact d1
  · have hn := d1.1
    exact d2.cg hp hn (fun k _ => e0 k) (fun k _ => (e 1 (by omega) k).1) (fun i _ => (e 6 (by omega) i).1) (fun i hi k => (e (9 + i) (by omega) k).1) (fun i hi k => ⟨(e (14 + 2 * i) (by omega) k).1, (e (15 + 2 * i) (by omega) k).1⟩) (fun k _ _ => (m _ _ (by decide)).1) (fun i _ => (m _ _ (by decide)).1) (fun i _ o _ _ => (m _ _ (by omega)).1) (fun i _ o _ => (m _ _ (by omega)).1) (fun i _ k _ => (m _ _ (by decide)).1) (fun k _ => (m _ _ (by decide)).1)
  · have hn := d1.1
    exact d3.cg hp hn (fun i _ => (e 5 (by omega) i).2) (fun i hi => (e (9 + i) (by omega) 0).2) (fun i hi => (e (14 + 2 * i) (by omega) 0).2) (fun i _ => (m _ _ (by decide)).2) (fun i _ => (m _ _ (by decide)).2) (fun i _ => (m _ _ (by decide)).2)
theorem f_new {B0 B P : Nat} {s0 t0 : HS} {W : List (Nat × Nat × Int32)} {V : List (Nat × Nat × Int64)} {W' : List (Nat × Nat × Int32)} {V' : List (Nat × Nat × Int64)} {G : HS → HS → Prop} (hp : okX4 p = true) (T : TK L B P s t) (C : CNT p 1 c h n s t) (N : NMS p 1 c h n s t) (cc : Wc W V s0 s) (m : Wm W' V' t0 t) (hf : free W' V') {K : Int64 → HS → Option HS} {M : HS → Option (Int32 × HS)} {Q : HS → Prop} (hK : ∀ k, DK Q (K k)) (hQ : ∀ s', Fr LF1 s s' → Q s')
    (go : ∀ k w, NMk k w → t.2.1 101 7 = w → Res L B0 t0 G (bnd (f_X8_step s) fun s' => K k s') (M t)) :
    Res L B0 t0 G (bnd2 (f_X5_takeNewName p s) fun y s' => K y s') (bnd2 (f_X12_isNew t) fun y t' => if y = 0 then some (0, t') else M t') := by
  rcases r_new hp T C N with ⟨e1, e2, e3⟩ | ⟨k, s', t', e1, e2, e3, e4, e5⟩
  · rw [e2, e3, bnd2_t, if_neg (by decide)]
    have := go _ _ e1 rfl
    cases x : f_X8_step s with
    | none => rw [x] at this; exact this
    | some s' => rw [x, bnd_t] at this; rw [bnd_t, bnd2_t]; exact this
  · rw [e1, e2, bnd2_t, bnd2_t, if_pos (Eq.refl _)]
    obtain ⟨s2, k1, k2, k3⟩ := hK k s' e3.1 (hQ s' e4)
    exact Or.inr ⟨s2, t', k1, rfl, ⟨k2, by rw [k3]; exact e3.2⟩, (m.fr e5).r0 hf⟩
end THING
