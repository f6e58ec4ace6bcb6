/-! What a method that throws holds beside the tables: words that outlast warming one by one, and two static fields -/
def rx_B : List Cond := [.declares (Bundle.init0 "java/lang/RuntimeException"), .declares (Bundle.init0 "java/lang/Exception"), .declares (Bundle.init0 Bundle.tN), .castable rx_E rx_E]
def rx_K (U : State) : Prop := ∀ w ∈ rx_B, w.before #[] U = true
theorem rx_B_c {w : Cond} (h : w ∈ rx_B) : (∃ x, w = .declares x) ∨ ∃ a b, w = .castable a b := by
  simp only [rx_B, List.mem_cons, List.not_mem_nil, or_false] at h
  rcases h with rfl | rfl | rfl | rfl <;> first | exact Or.inl ⟨_, rfl⟩ | exact Or.inr ⟨_, _, rfl⟩
theorem rx_K.at {u U : State} (hW : u.vm.Alike U.vm) (h : rx_K u) {w : Cond} (hw : w ∈ rx_B) (a : Array Value) : w.before a U = true := by
  have h1 := h w hw
  rcases rx_B_c hw with ⟨x, rfl⟩ | ⟨x, y, rfl⟩
  · have e1 := Cond.onTables_vm (A := a) (A' := #[]) (U := U) (U' := u) U.vm (.declares x) rfl
    have e2 := Cond.declares_setVm (args := #[]) hW x
    exact (e1.trans e2).trans h1
  · have e1 := Cond.onTables_vm (A := a) (A' := #[]) (U := U) (U' := u) U.vm (.castable x y) rfl
    have e2 := Cond.castable_setVm (args := #[]) hW x y
    exact (e1.trans e2).trans h1
theorem rx_K.moved {u U : State} (hW : u.vm.Alike U.vm) (h : rx_K u) : rx_K U := fun _ hw => h.at hW hw _
theorem rx_bad : ∀ w ∈ rx_ws.filter (fun w => !goodWord w), w ∈ rx_B := fun w hw => of_decide_eq_true (List.all_eq_true.mp (show (rx_ws.filter (fun w => !goodWord w)).all (fun w => decide (w ∈ rx_B)) = true by decide +kernel) w hw)
/-- every word of the throw, where the tables' good words and rx_K hold -/
theorem rx_all {a : Array Value} {U : State} (hT : ∀ w ∈ TG, w.before a U = true) (hK : rx_K U) : ∀ w ∈ rx_ws, w.before a U = true := by
  intro w hw
  by_cases g : goodWord w = true
  · exact hT w (TG_in (rx_in w hw) g)
  · refine hK.at (Vm.Alike.refl _) (rx_bad w (List.mem_filter.mpr ⟨hw, ?_⟩)) a
    show (!goodWord w) = true
    cases hgw : goodWord w
    · rfl
    · exact absurd hgw g
def RXq (A : Nat → Prop) (U : State) (H : Heap) : Prop := rx_K U ∧ vx_Zq Bundle.tN "UNASSIGNED_STACK" Bundle.steD A U H ∧ vx_Zq Bundle.tN "SUPPRESSED_SENTINEL" Bundle.listD A U H
theorem RXq.moved {A : Nat → Prop} {u U : State} {H : Heap} (hvm : u.vm.Alike U.vm) (h : RXq A u H) : RXq A U H := ⟨h.1.moved hvm, vx_Zq.moved hvm h.2.1, vx_Zq.moved hvm h.2.2⟩
theorem RXq.kept {A : Nat → Prop} {U : State} {H H1 : Heap} (h : RXq A U H) (hq : ∀ a : Nat, a < H.size → ¬ A a → H1[a]? = H[a]?) : RXq A U H1 := ⟨h.1, vx_Zq.kept h.2.1 hq, vx_Zq.kept h.2.2 hq⟩
theorem RXq.narrow {A B : Nat → Prop} {U : State} {H : Heap} (h : RXq A U H) (hAB : ∀ q, B q → A q) : RXq B U H := ⟨h.1, vx_Zq.narrow h.2.1 hAB, vx_Zq.narrow h.2.2 hAB⟩
