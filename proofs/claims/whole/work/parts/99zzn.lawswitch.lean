/-! The law's switch -/
section LSW
variable {Z : ZT} {b L : Nat} {xs : Nat → Int32} {j : Int32} {cc ss : Nat} {u : HS}
theorem law_switch (y : Int32) (hw : WIN j L) (hcs : cc + 1 ≤ room_1.cells ∧ ss + 6 ≤ room_1.slots) (E : RE u) (k1 : ∀ u', RE u' → Ex room_1 (GW b L xs) Z miL_law 0 cc ss 1259 NF (LSj j) [] (hp u')) (k2 : ∀ u', RE u' → Ex room_1 (GW b L xs) Z miL_law 0 (cc + 1) (ss + 6) 1259 NF (LSj j) [] (hp u')) : Ex room_1 (GW b L xs) Z miL_law 0 cc ss 40 NF (LSj j) [.int y] (hp u) := by
  have hcs1 : cc ≤ room_1.cells ∧ ss ≤ room_1.slots := ⟨by omega, by omega⟩
  by_cases hin : y.toInt < 0 ∨ 29 < y.toInt
  · exact x_tableOut (tgt := 1259) dL_law_40 hin (by decide) (k1 u E)
  · obtain ⟨n, hn⟩ : ∃ n : Nat, y.toInt = (n : Int) := ⟨y.toInt.toNat, by omega⟩
    have hy : y = Int32.ofInt n := by rw [← hn]; exact (Int32.ofInt_toInt y).symm
    have hc : n = 0 ∨ n = 1 ∨ n = 2 ∨ n = 3 ∨ n = 4 ∨ n = 5 ∨ n = 6 ∨ n = 7 ∨ n = 8 ∨ n = 9 ∨ n = 10 ∨ n = 11 ∨ n = 12 ∨ n = 13 ∨ n = 14 ∨ n = 15 ∨ n = 16 ∨ n = 17 ∨ n = 18 ∨ n = 19 ∨ n = 20 ∨ n = 21 ∨ n = 22 ∨ n = 23 ∨ n = 24 ∨ n = 25 ∨ n = 26 ∨ n = 27 ∨ n = 28 ∨ n = 29 := by omega
    subst hy
    rcases hc with rfl | rfl | rfl | rfl | rfl | rfl | rfl | rfl | rfl | rfl | rfl | rfl | rfl | rfl | rfl | rfl | rfl | rfl | rfl | rfl | rfl | rfl | rfl | rfl | rfl | rfl | rfl | rfl | rfl | rfl
    · exact x_tableIn (off := 136) (tgt := 176) dL_law_40 (by decide) (by decide) (by decide) (by decide) (lc_0_feed hw hcs1 E k1)
    · exact x_tableIn (off := 283) (tgt := 323) dL_law_40 (by decide) (by decide) (by decide) (by decide) (lc_1_junction hw hcs1 E k1)
    · exact x_tableIn (off := 296) (tgt := 336) dL_law_40 (by decide) (by decide) (by decide) (by decide) (lc_2_days hw hcs1 E k1)
    · exact x_tableIn (off := 309) (tgt := 349) dL_law_40 (by decide) (by decide) (by decide) (by decide) (lc_3_thing hw hcs1 E k1)
    · exact x_tableIn (off := 346) (tgt := 386) dL_law_40 (by decide) (by decide) (by decide) (by decide) (lc_4_buyer hw hcs1 E k1)
    · exact x_tableIn (off := 383) (tgt := 423) dL_law_40 (by decide) (by decide) (by decide) (by decide) (lc_5_out hw hcs1 E k1)
    · exact x_tableIn (off := 436) (tgt := 476) dL_law_40 (by decide) (by decide) (by decide) (by decide) (lc_6_set hw hcs1 E k1)
    · exact x_tableIn (off := 473) (tgt := 513) dL_law_40 (by decide) (by decide) (by decide) (by decide) (lc_7_heats hw hcs1 E k1)
    · exact x_tableIn (off := 510) (tgt := 550) dL_law_40 (by decide) (by decide) (by decide) (by decide) (lc_8_undo hw hcs1 E k1)
    · exact x_tableIn (off := 523) (tgt := 563) dL_law_40 (by decide) (by decide) (by decide) (by decide) (lc_9_judged hw hcs1 E k1)
    · exact x_tableIn (off := 548) (tgt := 588) dL_law_40 (by decide) (by decide) (by decide) (by decide) (lc_10_served hw hcs1 E k1)
    · exact x_tableIn (off := 585) (tgt := 625) dL_law_40 (by decide) (by decide) (by decide) (by decide) (lc_11_round hw hcs1 E k1)
    · exact x_tableIn (off := 610) (tgt := 650) dL_law_40 (by decide) (by decide) (by decide) (by decide) (lc_12_chance hw hcs1 E k1)
    · exact x_tableIn (off := 635) (tgt := 675) dL_law_40 (by decide) (by decide) (by decide) (by decide) (lc_13_rests hw hcs E k2)
    · exact x_tableIn (off := 703) (tgt := 743) dL_law_40 (by decide) (by decide) (by decide) (by decide) (lc_14_errand hw hcs1 E k1)
    · exact x_tableIn (off := 740) (tgt := 780) dL_law_40 (by decide) (by decide) (by decide) (by decide) (lc_15_table hw hcs1 E k1)
    · exact x_tableIn (off := 777) (tgt := 817) dL_law_40 (by decide) (by decide) (by decide) (by decide) (lc_16_stand hw hcs1 E k1)
    · exact x_tableIn (off := 790) (tgt := 830) dL_law_40 (by decide) (by decide) (by decide) (by decide) (lc_17_ring hw hcs1 E k1)
    · exact x_tableIn (off := 803) (tgt := 843) dL_law_40 (by decide) (by decide) (by decide) (by decide) (lc_18_best hw hcs1 E k1)
    · exact x_tableIn (off := 856) (tgt := 896) dL_law_40 (by decide) (by decide) (by decide) (by decide) (lc_19_tray hw hcs1 E k1)
    · exact x_tableIn (off := 893) (tgt := 933) dL_law_40 (by decide) (by decide) (by decide) (by decide) (lc_20_price hw hcs1 E k1)
    · exact x_tableIn (off := 918) (tgt := 958) dL_law_40 (by decide) (by decide) (by decide) (by decide) (lc_21_ahead hw hcs1 E k1)
    · exact x_tableIn (off := 955) (tgt := 995) dL_law_40 (by decide) (by decide) (by decide) (by decide) (lc_22_most hw hcs1 E k1)
    · exact x_tableIn (off := 980) (tgt := 1020) dL_law_40 (by decide) (by decide) (by decide) (by decide) (lc_23_sell hw hcs1 E k1)
    · exact x_tableIn (off := 1017) (tgt := 1057) dL_law_40 (by decide) (by decide) (by decide) (by decide) (lc_24_laws hw hcs1 E k1)
    · exact x_tableIn (off := 1042) (tgt := 1082) dL_law_40 (by decide) (by decide) (by decide) (by decide) (lc_25_see hw hcs1 E k1)
    · exact x_tableIn (off := 1079) (tgt := 1119) dL_law_40 (by decide) (by decide) (by decide) (by decide) (lc_26_was hw hcs1 E k1)
    · exact x_tableIn (off := 1092) (tgt := 1132) dL_law_40 (by decide) (by decide) (by decide) (by decide) (lc_27_years hw hcs1 E k1)
    · exact x_tableIn (off := 1141) (tgt := 1181) dL_law_40 (by decide) (by decide) (by decide) (by decide) (lc_28_mark hw hcs1 E k1)
    · exact x_tableIn (off := 1194) (tgt := 1234) dL_law_40 (by decide) (by decide) (by decide) (by decide) (lc_29_count hw hcs1 E k1)
end LSW
