/-! What a throw stands on, at the start -/
theorem start_rx {args : Array Value} {s : State} (hts : ∀ w ∈ lw_tbl, w.before args s = true) (hg : (Jvm.Cond.and given_1 narrow_1).before args s = true) : RXq (fun q => s.heap.size ≤ q) s s.heap := by
  have hs := flat_of_before _ hg
  have hA : ∀ a : Nat, a < s.heap.size → ¬ (fun q => s.heap.size ≤ q) a := fun a h => Nat.not_le.mpr h
  have tb : ∀ w, decide (w ∈ tables_1) = true → w.before args s = true := fun w h => hts w (List.mem_append_right _ (of_decide_eq_true h))
  refine ⟨fun w hw => ?_, vx_Zqof (tb _ (by decide +kernel)) (tb _ (by decide +kernel)) (hs _ (by decide +kernel)) hA, vx_Zqof (tb _ (by decide +kernel)) (tb _ (by decide +kernel)) (hs _ (by decide +kernel)) hA⟩
  have hin : w ∈ rx_ws := by
    have h0 : rx_B.all (fun w => decide (w ∈ rx_ws)) = true := by decide +kernel
    exact of_decide_eq_true (List.all_eq_true.mp h0 w hw)
  have h1 := hts w (rx_in w hin)
  rcases rx_B_c hw with ⟨x, rfl⟩ | ⟨x, y, rfl⟩ <;> exact h1
