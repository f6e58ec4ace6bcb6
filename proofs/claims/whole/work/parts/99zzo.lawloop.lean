/-! The law's loop -/
section LLOOP
variable {Z : ZT} {b L : Nat} {xs : Nat → Int32}
theorem win_I {i : Nat} (hL : L ≤ 3584) (h : i + 7 ≤ L) : WIN (I i) L := by
  intro k hk
  simp only [List.mem_cons, List.not_mem_nil, or_false] at hk
  have one : ∀ m : Nat, m < 7 → vp_in (I i + I m) L := fun m hm => by
    rw [I_add]; exact inb_v (inb_t (by omega) (by omega))
  rcases hk with rfl | rfl | rfl | rfl | rfl | rfl
  · exact one 1 (by omega)
  · exact one 2 (by omega)
  · exact one 3 (by omega)
  · exact one 4 (by omega)
  · exact one 5 (by omega)
  · exact one 6 (by omega)
theorem guard_I {i : Nat} (hL : L ≤ 3584) (hi : i ≤ L) : (Int32.ofNat L - 7 < I i) ↔ L < i + 7 := by
  have e7 : (7 : Int32) = I 7 := rfl
  by_cases h : 7 ≤ L
  · rw [e7, show Int32.ofNat L = I L from rfl, I_sub h, I_lt (by omega) (by omega)]
    omega
  · have : L = 0 ∨ L = 1 ∨ L = 2 ∨ L = 3 ∨ L = 4 ∨ L = 5 ∨ L = 6 := by omega
    have hi6 : i = 0 ∨ i = 1 ∨ i = 2 ∨ i = 3 ∨ i = 4 ∨ i = 5 ∨ i = 6 := by omega
    rcases this with rfl | rfl | rfl | rfl | rfl | rfl | rfl <;> rcases hi6 with rfl | rfl | rfl | rfl | rfl | rfl | rfl <;> decide
theorem law_loop (hL : L ≤ 3584) (kend : ∀ (j : Int32) (cc ss : Nat) (u : HS), cc ≤ room_1.cells → ss ≤ room_1.slots → Ex room_1 (GW b L xs) Z miL_law 0 cc ss 1265 NF (LSj j) [] (hp u)) : ∀ e i, i + e = L → ∀ (cc ss : Nat) (u : HS), cc + e + 1 ≤ room_1.cells → ss + 6 * e + 6 ≤ room_1.slots → RE u → Ex room_1 (GW b L xs) Z miL_law 0 cc ss 23 NF (LSj (I i)) [] (hp u) := by
  intro e
  induction e using Nat.strongRecOn with
  | ind e ih =>
    intro i hi cc ss u h1 h2 E
    refine x_iload dL_law_23 4 rfl (pc2 := 25) rfl ?_
    refine x_aload_n dL_law_25 0 rfl rfl (pc2 := 26) rfl ?_
    refine x_slen dL_law_26 (by decide) rfl (pc2 := 27) rfl ?_
    refine x_bipush (x := 7) dL_law_27 (by decide) (pc2 := 29) rfl ?_
    refine x_isub dL_law_29 (pc2 := 30) rfl ?_
    refine x_icmp_gt (tgt := 1265) dL_law_30 (by decide) (pc2 := 33) rfl (fun _ => kend _ cc ss u (by omega) (by omega)) (fun c => ?_)
    have hw7 : i + 7 ≤ L := by
      have := mt (guard_I hL (by omega)).mpr c
      omega
    refine x_aload_n dL_law_33 0 rfl rfl (pc2 := 34) rfl ?_
    refine x_iload dL_law_34 4 rfl (pc2 := 36) rfl ?_
    refine x_sld dL_law_36 (by decide) (inb_v (inb_t (by omega) (by omega))) rfl (pc2 := 37) rfl ?_
    refine x_bipush (x := 31) dL_law_37 (by decide) (pc2 := 39) rfl ?_
    refine x_iand dL_law_39 (pc2 := 40) rfl ?_
    have back : ∀ (c2 s2 : Nat) (u' : HS), c2 ≤ cc + 1 → s2 ≤ ss + 6 → RE u' → Ex room_1 (GW b L xs) Z miL_law 0 c2 s2 1259 NF (LSj (I i)) [] (hp u') := by
      intro c2 s2 u' hc hs E'
      refine x_iinc dL_law_1259 4 rfl (c9 := 7) (by decide) (y := I (i + 7)) (by rw [show (7 : Int32) = I 7 from rfl, I_add]) (by decide) (ls' := LSj (I (i + 7))) [1, 2, 3, 4, 0] rfl (pc2 := 1262) rfl ?_
      refine x_goto (tgt := 23) dL_law_1262 (by decide) ?_
      exact ih (e - 7) (by omega) (i + 7) (by omega) c2 s2 u' (by omega) (by omega) E'
    exact law_switch _ (win_I hL hw7) ⟨by omega, by omega⟩ E (fun u' E' => back cc ss u' (by omega) (by omega) E') (fun u' E' => back (cc + 1) (ss + 6) u' (by omega) (by omega) E')
end LLOOP
