/-! The statics, at the start: the enum's constants, their array, the text of the signs -/
def gvC : List Cond := flatC (Jvm.Cond.and given_1 narrow_1)
theorem sw_dec {P : Nat → Cond} {n : Nat} (h : (List.range n).all (fun i => decide (P i ∈ gvC)) = true) : ∀ i : Nat, i < n → P i ∈ gvC := fun i hi => of_decide_eq_true (List.all_eq_true.mp h i (List.mem_range.mpr hi))
theorem sw_tab {P : Nat → Cond} {n : Nat} (h : (List.range n).all (fun i => decide (P i ∈ tables_1)) = true) : ∀ i : Nat, i < n → P i ∈ tables_1 := fun i hi => of_decide_eq_true (List.all_eq_true.mp h i (List.mem_range.mpr hi))
def sw_t (i : Nat) : Term := .static RX10 (nmW.getD i "") "LTeaJunction$Word;"
def sw_w : Term := .static "TeaJunction" "WORDS" "[LTeaJunction$Word;"
def sw_s : Term := .string "TeaJunction$Tape" 54
def sw_v : Term := .field sw_s "java/lang/String" "value" "[B"
theorem sw_d1 : ∀ i : Nat, i < 37 → Cond.exactly (sw_t i) RX10 ∈ gvC := sw_dec (by decide +kernel)
theorem sw_d2 : ∀ i : Nat, i < 37 → Cond.eq (.field (sw_t i) "TeaJunction$Word" "once" "I") (.int (onceL.getD i 0)) ∈ gvC := sw_dec (by decide +kernel)
theorem sw_d3 : ∀ i : Nat, i < 37 → Cond.eq (.field (sw_t i) "TeaJunction$Word" "key" "J") (.long (keyL.getD i 0)) ∈ gvC := sw_dec (by decide +kernel)
theorem sw_d4 : ∀ i : Nat, i < 37 → Cond.eq (.elem sw_w (.int (Int32.ofNat i))) (sw_t i) ∈ gvC := sw_dec (by decide +kernel)
theorem sw_d5 : ∀ i : Nat, i < 8 → Cond.eq (.elem sw_v (.int (Int32.ofNat i))) (.int (sgnL.getD i 0)) ∈ gvC := sw_dec (by decide +kernel)
theorem sw_d6 : ∀ i : Nat, i < 37 → Cond.laysStatic RX10 (nmW.getD i "") "LTeaJunction$Word;" ∈ tables_1 := sw_tab (by decide +kernel)
theorem sw_inj : ∀ i : Fin 37, ∀ j : Fin 37, keyL.getD i.1 0 = keyL.getD j.1 0 → i = j := by decide +kernel
section SWST
variable {args : Array Value} {s : State}
theorem start_En (hts : ∀ w ∈ lw_tbl, w.before args s = true) (hs : ∀ w ∈ gvC, w.before args s = true) {A : Nat → Prop} (hA : ∀ a : Nat, a < s.heap.size → ¬ A a) : ∃ ad : Nat → Nat, va_En RX10 "LTeaJunction$Word;" nmW [("TeaJunction$Word", "once", "I", onceL)] ad A s s.heap ∧ ∀ i : Nat, i < 37 → (sw_t i).eval args s none [] s = some (.ref (ad i)) := by
  have tb : ∀ w ∈ tables_1, w.before args s = true := fun w h => hts w (List.mem_append_right _ h)
  have hini : (Cond.initialized RX10).before args s = true := tb _ (of_decide_eq_true (by decide +kernel))
  have h0 : ∀ i : Nat, ∃ t : Nat, i < 37 → (sw_t i).eval args s none [] s = some (.ref t) ∧ va_O RX10 t A s s.heap := by
    intro i
    by_cases hi : i < 37
    · obtain ⟨a, c, cell, k, q1, q2, q3, q4, q5, q6, -⟩ := Cond.exactly_spec (hs _ (sw_d1 i hi))
      exact ⟨a, fun _ => ⟨q1, cell, q3, q5, by rw [q6]; exact q2, hA a (Array.getElem?_eq_some_iff.mp q3).1⟩⟩
    · exact ⟨0, fun h => absurd h hi⟩
  obtain ⟨ad, had⟩ := Classical.axiomOfChoice h0
  refine ⟨ad, ⟨fun i hi => ⟨va_Zref (tb _ (sw_d6 i hi)) hini (had i hi).1 hA, (had i hi).2, fun q hq => ?_⟩, fun i j hi hj e => ?_⟩, fun i hi => (had i hi).1⟩
  · cases List.mem_singleton.mp hq
    exact vk_OFof (had i hi).1 (va_eqt (hs _ (sw_d2 i hi))) hA
  · have e1 := va_eqtl (hs _ (sw_d3 i hi))
    have e2 := va_eqtl (hs _ (sw_d3 j hj))
    rw [va_fe (had i hi).1] at e1
    rw [va_fe (had j hj).1, ← e] at e2
    have e3 := Value.long.inj (Option.some.inj (e1.symm.trans e2))
    exact congrArg Fin.val (sw_inj ⟨i, hi⟩ ⟨j, hj⟩ e3)
theorem start_SWN (hts : ∀ w ∈ lw_tbl, w.before args s = true) (hg : (Jvm.Cond.and given_1 narrow_1).before args s = true) {A : Nat → Prop} (hA : ∀ a : Nat, a < s.heap.size → ¬ A a) : ∃ adw : Nat → Nat, SWN adw A s s.heap := by
  have hs : ∀ w ∈ gvC, w.before args s = true := flat_of_before _ hg
  have tb : ∀ w ∈ tables_1, w.before args s = true := fun w h => hts w (List.mem_append_right _ h)
  have gv : ∀ w, decide (w ∈ gvC) = true → w.before args s = true := fun w h => hs w (of_decide_eq_true h)
  have tk : ∀ w, decide (w ∈ tables_1) = true → w.before args s = true := fun w h => tb w (of_decide_eq_true h)
  obtain ⟨ad, hE, hev⟩ := start_En hts hs hA
  have hF : va_Ef 37 "TeaJunction$Word" "key" "J" (fun i => .long (keyL.getD i 0)) ad A s s.heap := va_Efof (E := RX10) (d0 := "LTeaJunction$Word;") (nm := nmW) (tm := fun i => .long (keyL.getD i 0)) hev (fun i hi => hs _ (sw_d3 i hi)) (fun i hi => rfl) hA
  obtain ⟨t, ht, hT⟩ := va_Tof (tm := sw_w) (ty := .object "TeaJunction$Word") (N := 37) (f := fun i => .ref (ad i)) (by decide) (gv _ (by decide +kernel)) (va_eqt (gv _ (by decide +kernel))) (fun j hj => va_eqv (hs _ (sw_d4 j hj)) (hev j hj)) hA
  have hZ : va_Z "TeaJunction" "WORDS" "[LTeaJunction$Word;" (.ref t) A s s.heap := va_Zref (tk _ (by decide +kernel)) (tk _ (by decide +kernel)) ht hA
  have b1 : ∀ i : Nat, i < 1 → ([8] : List Nat).getD i 0 < 2 ^ 31 := by decide
  have b2 : ∀ i : Nat, i < 1 → (Cond.eq (.length (.field sw_s "java/lang/String" "value" "[B")) (.int (Int32.ofNat (([8] : List Nat).getD i 0)))).before args s = true := by
    intro i hi
    obtain rfl : i = 0 := Nat.lt_one_iff.mp hi
    exact gv _ (by decide +kernel)
  have b3 : ∀ i : Nat, i < 1 → ∀ j : Nat, j < ([8] : List Nat).getD i 0 → (Cond.eq (.elem (.field sw_s "java/lang/String" "value" "[B") (.int (Int32.ofNat j))) (.int ((([sgnL] : List (List Int32)).getD i []).getD j 0))).before args s = true := by
    intro i hi j hj
    obtain rfl : i = 0 := Nat.lt_one_iff.mp hi
    exact hs _ (sw_d5 j hj)
  have b4 : ∀ i j : Nat, i < 1 → j < 1 → i ≠ j → (Cond.not (Cond.eq sw_s sw_s)).before args s = true ∨ (Cond.not (Cond.eq sw_s sw_s)).before args s = true := fun i j hi hj ne => absurd (show i = j by omega) ne
  obtain ⟨aK, aV, hS, hSe⟩ := vk_Sof (args := args) (s := s) (A := A) (N := 1) (tm := fun _ => sw_s) (len := [8]) (byt := [sgnL]) b1 (fun i hi => gv _ (by decide +kernel)) (fun i hi => gv _ (by decide +kernel)) (fun i hi => gv _ (by decide +kernel)) b2 b3 b4 hA
  obtain ⟨adw, a1, a2, a3, a4⟩ : ∃ adw : Nat → Nat, (∀ i, i < 37 → adw i = ad i) ∧ adw 100 = t ∧ adw 101 = aK 0 ∧ adw 102 = aV 0 := ⟨fun i => if i < 37 then ad i else if i = 100 then t else if i = 101 then aK 0 else aV 0, fun i hi => if_pos hi, rfl, rfl, rfl⟩
  refine ⟨adw, ⟨?_, ?_, by rw [a2]; exact hZ, ?_, ?_, va_Zof (tk _ (by decide +kernel)) (tk _ (by decide +kernel)) (va_eqi (gv _ (by decide +kernel))) hA, va_AO.of (tk _ (by decide +kernel)), va_AO.of (tk _ (by decide +kernel)), va_AO.of (tk _ (by decide +kernel))⟩, ?_, vk_R.of (tk _ (by decide +kernel)) ?_⟩
  · refine ⟨fun i hi => ?_, fun i j hi hj e => ?_⟩
    · rw [a1 i hi]
      exact hE.1 i hi
    · rw [a1 i hi, a1 j hj] at e
      exact hE.2 i j hi hj e
  · intro i hi
    rw [a1 i hi]
    exact hF i hi
  · rw [a2]
    obtain ⟨cell, h1, h2, h3, h4, h5, h6, h7⟩ := hT
    refine ⟨cell, h1, h2, h3, h4, h5, fun j hj => ?_, h7⟩
    show cell.slots[j]? = some (.ref (adw j))
    rw [a1 j hj]
    exact h6 j hj
  · rw [a3, a4]
    refine ⟨fun i hi => ?_, fun i j hi hj e => by omega⟩
    obtain rfl : i = 0 := Nat.lt_one_iff.mp hi
    exact hS.1 0 hi
  · intro w hw
    have hin : w ∈ tables_1 := by
      have h0 : NWL.all (fun w => decide (w ∈ tables_1)) = true := by decide +kernel
      exact of_decide_eq_true (List.all_eq_true.mp h0 w hw)
    rcases NWL_c hw with ⟨a, i, b, n, d, hh, rfl⟩ | ⟨a, i, x, hh, rfl⟩
    · exact va_Nw.of rfl (tb _ hin)
    · exact va_Nw.of rfl (tb _ hin)
  · rw [a3]
    exact hSe 0 (by decide)
end SWST
