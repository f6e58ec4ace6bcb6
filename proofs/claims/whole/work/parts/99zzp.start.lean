/-! The classes are known at the start -/
theorem start_kn {args : Array Value} {s : State} (hts : ∀ w ∈ TG, w.before args s = true) : ∀ k : Nat, ∃ (c : ClassId) (i : Nat → Nat), ∀ q : vw_C, vwCl[k]? = some q → u_Kn s q.1 q.2.1 q.2.2 c i
  | 0 => by
    obtain ⟨c, i, h⟩ := u_known hts tgX0 (hts (.instantiable RX0 8) (tgk (by decide +kernel) rfl))
    exact ⟨c, i, fun q hq => by cases hq; exact h⟩
  | 1 => by
    obtain ⟨c, i, h⟩ := u_known hts tgX1 (hts (.instantiable RX1 3) (tgk (by decide +kernel) rfl))
    exact ⟨c, i, fun q hq => by cases hq; exact h⟩
  | 2 => by
    obtain ⟨c, i, h⟩ := u_known hts tgX2 (hts (.instantiable RX2 3) (tgk (by decide +kernel) rfl))
    exact ⟨c, i, fun q hq => by cases hq; exact h⟩
  | 3 => by
    obtain ⟨c, i, h⟩ := u_known hts tgX3 (hts (.instantiable RX3 1) (tgk (by decide +kernel) rfl))
    exact ⟨c, i, fun q hq => by cases hq; exact h⟩
  | 4 => by
    obtain ⟨c, i, h⟩ := u_known hts tgX4 (hts (.instantiable RX4 16) (tgk (by decide +kernel) rfl))
    exact ⟨c, i, fun q hq => by cases hq; exact h⟩
  | 5 => by
    obtain ⟨c, i, h⟩ := u_known hts tgX5 (hts (.instantiable RX5 3) (tgk (by decide +kernel) rfl))
    exact ⟨c, i, fun q hq => by cases hq; exact h⟩
  | 6 => by
    obtain ⟨c, i, h⟩ := u_known hts tgX6 (hts (.instantiable RX6 17) (tgk (by decide +kernel) rfl))
    exact ⟨c, i, fun q hq => by cases hq; exact h⟩
  | 7 => by
    obtain ⟨c, i, h⟩ := u_known hts tgX7 (hts (.instantiable RX7 12) (tgk (by decide +kernel) rfl))
    exact ⟨c, i, fun q hq => by cases hq; exact h⟩
  | 8 => by
    obtain ⟨c, i, h⟩ := u_known hts tgX8 (hts (.instantiable RX8 10) (tgk (by decide +kernel) rfl))
    exact ⟨c, i, fun q hq => by cases hq; exact h⟩
  | 9 => by
    obtain ⟨c, i, h⟩ := u_known hts tgX9 (hts (.instantiable RX9 6) (tgk (by decide +kernel) rfl))
    exact ⟨c, i, fun q hq => by cases hq; exact h⟩
  | 10 => by
    obtain ⟨c, i, h⟩ := u_known hts tgX11 (hts (.instantiable RX11 12) (tgk (by decide +kernel) rfl))
    exact ⟨c, i, fun q hq => by cases hq; exact h⟩
  | 11 => by
    obtain ⟨c, i, h⟩ := u_known hts tgX12 (hts (.instantiable RX12 78) (tgk (by decide +kernel) rfl))
    exact ⟨c, i, fun q hq => by cases hq; exact h⟩
  | k + 12 => by
    obtain ⟨c, i, h⟩ := u_known hts tgX1 (hts (.instantiable RX1 3) (tgk (by decide +kernel) rfl))
    exact ⟨c, i, fun q hq => by simp [vwCl] at hq⟩
theorem start_D {args : Array Value} {s : State} (hts : ∀ w ∈ TG, w.before args s = true) : ∃ (dC : Nat → ClassId) (dI : Nat → Nat → Nat), ∀ (k : Nat) (q : vw_C), vwCl[k]? = some q → u_Kn s q.1 q.2.1 q.2.2 (dC k) (dI k) :=
  ⟨fun k => Classical.choose (start_kn hts k), fun k => Classical.choose (Classical.choose_spec (start_kn hts k)), fun k q hq => Classical.choose_spec (Classical.choose_spec (start_kn hts k)) q hq⟩
