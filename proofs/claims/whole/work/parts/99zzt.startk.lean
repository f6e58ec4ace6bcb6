/-! Arrays of objects at the start; all that is known of the classes -/
theorem start_ao {args : Array Value} {s : State} {C : String} (h : (Cond.arrayOver (.object C)).before args s = true) : ∃ c : ClassId, ArrOfT s c (.object C) ∧ va_RA s c (.object C) := by
  obtain ⟨comp, c, k, h1, h2, h3, h4, h5⟩ := Cond.arrayOver_spec h
  exact ⟨c, fun n z => ⟨fun k h => (by cases h), k, h3, comp, h4⟩, k, comp, h3, h4, h1, h5⟩
theorem start_K {args : Array Value} {s : State} (hts : ∀ w ∈ lw_tbl, w.before args s = true) : ∃ (D : va_G) (cA : Nat → ClassId), va_K D vwCl (tysOf cA) s := by
  have tk : ∀ w, decide (w ∈ tables_1) = true → w.before args s = true := fun w h => hts w (List.mem_append_right _ (of_decide_eq_true h))
  have htg : ∀ w ∈ TG, w.before args s = true := fun w h => hts w (List.mem_filter.mp h).1
  obtain ⟨dC, dI, hD⟩ := start_D htg
  obtain ⟨⟨c1, h1⟩, ⟨c2, h2⟩, ⟨c3, h3⟩, ⟨c4, h4⟩⟩ := start_prim htg
  obtain ⟨c5, h5⟩ := start_ao (C := RX9) (tk _ (by decide +kernel))
  obtain ⟨c6, h6⟩ := start_ao (C := RX0) (tk _ (by decide +kernel))
  obtain ⟨c7, h7⟩ := start_ao (C := RX7) (tk _ (by decide +kernel))
  refine ⟨(dC, dI), fun i => if i = 1 then c1 else if i = 2 then c2 else if i = 3 then c3 else if i = 4 then c4 else if i = 5 then c5 else if i = 6 then c6 else c7, hD, fun k q hq => ?_⟩
  match k, hq with
  | 0, hq => cases hq; exact h1
  | 1, hq => cases hq; exact h2
  | 2, hq => cases hq; exact h3
  | 3, hq => cases hq; exact h4
  | 4, hq => cases hq; exact h5
  | 5, hq => cases hq; exact h6
  | 6, hq => cases hq; exact h7
  | k + 7, hq => simp [tysOf] at hq
