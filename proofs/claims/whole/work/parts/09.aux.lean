theorem vc_i {x : Int32} : (Value.int x).category = 1 := rfl
theorem vc_l {x : Int64} : (Value.long x).category = 2 := rfl
theorem vc_r {x : Nat} : (Value.ref x).category = 1 := rfl
theorem vc_n : Value.null.category = 1 := rfl
theorem wob_i {i : Int32} (h : inb i 37 = true) : wob (1000 + i.toNatClampNeg) = true := by
  simp only [inb, Bool.and_eq_true, decide_eq_true_eq] at h
  simp only [wob, Bool.or_eq_true, Bool.and_eq_true, decide_eq_true_eq]
  exact Or.inr ⟨by omega, by omega⟩
theorem e_getEoQ {d : Nat} {μ : MI} {N0 : Nat} {v : Option Value} {N' : Nat} {h' : HP} {pc : Nat} {N : Nat} {ls : List (Nat × Value)} {st : List Value} {h : HP} {idx w : Nat} (hw : woc w = true) (hd : decode μ.2.1 pc = .ok (.getfield idx, 3)) (hl : Cond.fieldLink μ.1.cls idx RX10 "once" "I" ∈ TG) {pc2 : Nat} (hp2 : pc + 3 = pc2) (k : Ev d μ N0 v N' h' pc2 N ls (.int (onceL.getD (w - 1000) 0) :: st) h) : Ev d μ N0 v N' h' pc N ls (rva w :: st) h := by
  rw [rva_w hw]
  exact e_getEo (woc_lt hw) hd hl hp2 k
theorem e_getEkQ {d : Nat} {μ : MI} {N0 : Nat} {v : Option Value} {N' : Nat} {h' : HP} {pc : Nat} {N : Nat} {ls : List (Nat × Value)} {st : List Value} {h : HP} {idx w : Nat} (hw : woc w = true) (hd : decode μ.2.1 pc = .ok (.getfield idx, 3)) (hl : Cond.fieldLink μ.1.cls idx RX10 "key" "J" ∈ TG) {pc2 : Nat} (hp2 : pc + 3 = pc2) (k : Ev d μ N0 v N' h' pc2 N ls (.long (keyL.getD (w - 1000) 0) :: st) h) : Ev d μ N0 v N' h' pc N ls (rva w :: st) h := by
  rw [rva_w hw]
  exact e_getEk (woc_lt hw) hd hl hp2 k
theorem rs_1_6 (q : Nat × Nat × Nat × Nat × Nat) : Rs q 1 6 = 28 := rfl
theorem rs_1_7 (q : Nat × Nat × Nat × Nat × Nat) : Rs q 1 7 = 33 := rfl
theorem rs_1_9 (q : Nat × Nat × Nat × Nat × Nat) : Rs q 1 9 = 34 := rfl
theorem rs_1_11 (q : Nat × Nat × Nat × Nat × Nat) : Rs q 1 11 = 35 := rfl
theorem rs_1_0 (q : Nat × Nat × Nat × Nat × Nat) : Rs q 1 0 = 36 := rfl
theorem rs_1_1 (q : Nat × Nat × Nat × Nat × Nat) : Rs q 1 1 = 69 := rfl
theorem rs_1_2 (q : Nat × Nat × Nat × Nat × Nat) : Rs q 1 2 = 71 := rfl
theorem rs_1_5 (q : Nat × Nat × Nat × Nat × Nat) : Rs q 1 5 = 64 := rfl
theorem rs_1_8 (q : Nat × Nat × Nat × Nat × Nat) : Rs q 1 8 = 73 := rfl
theorem rs_28_4 (q : Nat × Nat × Nat × Nat × Nat) : Rs q 28 4 = 29 := rfl
theorem rs_28_5 (q : Nat × Nat × Nat × Nat × Nat) : Rs q 28 5 = 30 := rfl
theorem rs_28_7 (q : Nat × Nat × Nat × Nat × Nat) : Rs q 28 7 = 31 := rfl
theorem rs_28_9 (q : Nat × Nat × Nat × Nat × Nat) : Rs q 28 9 = 32 := rfl
theorem rs_36_0 (q : Nat × Nat × Nat × Nat × Nat) : Rs q 36 0 = 37 := rfl
theorem rs_64_4 (q : Nat × Nat × Nat × Nat × Nat) : Rs q 64 4 = 65 := rfl
theorem rs_64_5 (q : Nat × Nat × Nat × Nat × Nat) : Rs q 64 5 = 66 := rfl
theorem rs_64_7 (q : Nat × Nat × Nat × Nat × Nat) : Rs q 64 7 = 67 := rfl
theorem rs_64_9 (q : Nat × Nat × Nat × Nat × Nat) : Rs q 64 9 = 68 := rfl
theorem rs_69_0 (q : Nat × Nat × Nat × Nat × Nat) : Rs q 69 0 = 36 := rfl
theorem rs_69_1 (q : Nat × Nat × Nat × Nat × Nat) : Rs q 69 1 = 70 := rfl
theorem rs_70_0 (q : Nat × Nat × Nat × Nat × Nat) : Rs q 70 0 = 36 := rfl
theorem rs_71_1 (q : Nat × Nat × Nat × Nat × Nat) : Rs q 71 1 = 72 := rfl
theorem rs_71_0 (q : Nat × Nat × Nat × Nat × Nat) : Rs q 71 0 = 36 := rfl
theorem rs_73_8 (q : Nat × Nat × Nat × Nat × Nat) : Rs q 73 8 = 74 := rfl
theorem rs_73_9 (q : Nat × Nat × Nat × Nat × Nat) : Rs q 73 9 = 75 := rfl
theorem rs_73_10 (q : Nat × Nat × Nat × Nat × Nat) : Rs q 73 10 = 76 := rfl
theorem rs_73_11 (q : Nat × Nat × Nat × Nat × Nat) : Rs q 73 11 = 77 := rfl
theorem rs_73_12 (q : Nat × Nat × Nat × Nat × Nat) : Rs q 73 12 = 78 := rfl
theorem rs_73_13 (q : Nat × Nat × Nat × Nat × Nat) : Rs q 73 13 = 79 := rfl
theorem rs_73_14 (q : Nat × Nat × Nat × Nat × Nat) : Rs q 73 14 = 80 := rfl
theorem rs_81_4 (q : Nat × Nat × Nat × Nat × Nat) : Rs q 81 4 = 82 := rfl
theorem rs_81_5 (q : Nat × Nat × Nat × Nat × Nat) : Rs q 81 5 = 83 := rfl
theorem rs_81_7 (q : Nat × Nat × Nat × Nat × Nat) : Rs q 81 7 = 84 := rfl
theorem rs_81_9 (q : Nat × Nat × Nat × Nat × Nat) : Rs q 81 9 = 85 := rfl
theorem rs_86_4 (q : Nat × Nat × Nat × Nat × Nat) : Rs q 86 4 = 87 := rfl
theorem rs_86_5 (q : Nat × Nat × Nat × Nat × Nat) : Rs q 86 5 = 88 := rfl
theorem rs_86_7 (q : Nat × Nat × Nat × Nat × Nat) : Rs q 86 7 = 89 := rfl
theorem rs_86_9 (q : Nat × Nat × Nat × Nat × Nat) : Rs q 86 9 = 90 := rfl
theorem rs_91_4 (q : Nat × Nat × Nat × Nat × Nat) : Rs q 91 4 = 92 := rfl
theorem rs_91_5 (q : Nat × Nat × Nat × Nat × Nat) : Rs q 91 5 = 93 := rfl
theorem rs_91_7 (q : Nat × Nat × Nat × Nat × Nat) : Rs q 91 7 = 94 := rfl
theorem rs_91_9 (q : Nat × Nat × Nat × Nat × Nat) : Rs q 91 9 = 95 := rfl
theorem rs_96_4 (q : Nat × Nat × Nat × Nat × Nat) : Rs q 96 4 = 97 := rfl
theorem rs_96_5 (q : Nat × Nat × Nat × Nat × Nat) : Rs q 96 5 = 98 := rfl
theorem rs_96_7 (q : Nat × Nat × Nat × Nat × Nat) : Rs q 96 7 = 99 := rfl
theorem rs_96_9 (q : Nat × Nat × Nat × Nat × Nat) : Rs q 96 9 = 100 := rfl
theorem rs_101_2 (q : Nat × Nat × Nat × Nat × Nat) : Rs q 101 2 = 102 := rfl
theorem rs_101_10 (q : Nat × Nat × Nat × Nat × Nat) : Rs q 101 10 = 103 := rfl
theorem rs_101_11 (q : Nat × Nat × Nat × Nat × Nat) : Rs q 101 11 = 104 := rfl
theorem rs_101_12 (q : Nat × Nat × Nat × Nat × Nat) : Rs q 101 12 = 105 := rfl
theorem rs_101_13 (q : Nat × Nat × Nat × Nat × Nat) : Rs q 101 13 = 106 := rfl
theorem rs_101_14 (q : Nat × Nat × Nat × Nat × Nat) : Rs q 101 14 = 107 := rfl
theorem rs_101_15 (q : Nat × Nat × Nat × Nat × Nat) : Rs q 101 15 = 108 := rfl
theorem rs_101_16 (q : Nat × Nat × Nat × Nat × Nat) : Rs q 101 16 = 109 := rfl
theorem rs_101_17 (q : Nat × Nat × Nat × Nat × Nat) : Rs q 101 17 = 110 := rfl
theorem rs_101_18 (q : Nat × Nat × Nat × Nat × Nat) : Rs q 101 18 = 111 := rfl
theorem rs_101_19 (q : Nat × Nat × Nat × Nat × Nat) : Rs q 101 19 = 112 := rfl
theorem rs_101_20 (q : Nat × Nat × Nat × Nat × Nat) : Rs q 101 20 = 113 := rfl
theorem rs_101_21 (q : Nat × Nat × Nat × Nat × Nat) : Rs q 101 21 = 114 := rfl
theorem rs_101_22 (q : Nat × Nat × Nat × Nat × Nat) : Rs q 101 22 = 115 := rfl
theorem rs_101_23 (q : Nat × Nat × Nat × Nat × Nat) : Rs q 101 23 = 116 := rfl
theorem rs_101_24 (q : Nat × Nat × Nat × Nat × Nat) : Rs q 101 24 = 117 := rfl
theorem rs_101_25 (q : Nat × Nat × Nat × Nat × Nat) : Rs q 101 25 = 118 := rfl
theorem rs_101_26 (q : Nat × Nat × Nat × Nat × Nat) : Rs q 101 26 = 119 := rfl
theorem rs_101_27 (q : Nat × Nat × Nat × Nat × Nat) : Rs q 101 27 = 120 := rfl
theorem rs_101_28 (q : Nat × Nat × Nat × Nat × Nat) : Rs q 101 28 = 121 := rfl
theorem rs_101_29 (q : Nat × Nat × Nat × Nat × Nat) : Rs q 101 29 = 122 := rfl
theorem rs_101_32 (q : Nat × Nat × Nat × Nat × Nat) : Rs q 101 32 = 123 := rfl
theorem rs_101_33 (q : Nat × Nat × Nat × Nat × Nat) : Rs q 101 33 = 124 := rfl
theorem rs_101_34 (q : Nat × Nat × Nat × Nat × Nat) : Rs q 101 34 = 125 := rfl
theorem rs_101_35 (q : Nat × Nat × Nat × Nat × Nat) : Rs q 101 35 = 126 := rfl
theorem rs_101_36 (q : Nat × Nat × Nat × Nat × Nat) : Rs q 101 36 = 127 := rfl
theorem rs_101_37 (q : Nat × Nat × Nat × Nat × Nat) : Rs q 101 37 = 128 := rfl
theorem rs_101_38 (q : Nat × Nat × Nat × Nat × Nat) : Rs q 101 38 = 129 := rfl
theorem rs_101_39 (q : Nat × Nat × Nat × Nat × Nat) : Rs q 101 39 = 130 := rfl
theorem rs_101_40 (q : Nat × Nat × Nat × Nat × Nat) : Rs q 101 40 = 131 := rfl
theorem rs_101_41 (q : Nat × Nat × Nat × Nat × Nat) : Rs q 101 41 = 132 := rfl
theorem rs_101_42 (q : Nat × Nat × Nat × Nat × Nat) : Rs q 101 42 = 133 := rfl
theorem rs_101_43 (q : Nat × Nat × Nat × Nat × Nat) : Rs q 101 43 = 134 := rfl
theorem rs_101_45 (q : Nat × Nat × Nat × Nat × Nat) : Rs q 101 45 = 135 := rfl
theorem rs_101_46 (q : Nat × Nat × Nat × Nat × Nat) : Rs q 101 46 = 136 := rfl
theorem rs_101_47 (q : Nat × Nat × Nat × Nat × Nat) : Rs q 101 47 = 137 := rfl
theorem rs_101_48 (q : Nat × Nat × Nat × Nat × Nat) : Rs q 101 48 = 138 := rfl
theorem rs_101_49 (q : Nat × Nat × Nat × Nat × Nat) : Rs q 101 49 = 139 := rfl
theorem rs_101_50 (q : Nat × Nat × Nat × Nat × Nat) : Rs q 101 50 = 140 := rfl
theorem rs_101_51 (q : Nat × Nat × Nat × Nat × Nat) : Rs q 101 51 = 141 := rfl
theorem rs_101_52 (q : Nat × Nat × Nat × Nat × Nat) : Rs q 101 52 = 142 := rfl
theorem rs_101_53 (q : Nat × Nat × Nat × Nat × Nat) : Rs q 101 53 = 143 := rfl
theorem rs_101_54 (q : Nat × Nat × Nat × Nat × Nat) : Rs q 101 54 = 144 := rfl
theorem rs_101_55 (q : Nat × Nat × Nat × Nat × Nat) : Rs q 101 55 = 145 := rfl
theorem rs_101_56 (q : Nat × Nat × Nat × Nat × Nat) : Rs q 101 56 = 146 := rfl
theorem rs_101_57 (q : Nat × Nat × Nat × Nat × Nat) : Rs q 101 57 = 147 := rfl
theorem rs_101_58 (q : Nat × Nat × Nat × Nat × Nat) : Rs q 101 58 = 148 := rfl
theorem rs_101_59 (q : Nat × Nat × Nat × Nat × Nat) : Rs q 101 59 = 149 := rfl
theorem rs_101_67 (q : Nat × Nat × Nat × Nat × Nat) : Rs q 101 67 = 150 := rfl
theorem rs_101_68 (q : Nat × Nat × Nat × Nat × Nat) : Rs q 101 68 = 151 := rfl
theorem rs_101_69 (q : Nat × Nat × Nat × Nat × Nat) : Rs q 101 69 = 152 := rfl
theorem rs_101_70 (q : Nat × Nat × Nat × Nat × Nat) : Rs q 101 70 = 153 := rfl
theorem rs_101_71 (q : Nat × Nat × Nat × Nat × Nat) : Rs q 101 71 = 154 := rfl
theorem rs_101_72 (q : Nat × Nat × Nat × Nat × Nat) : Rs q 101 72 = 155 := rfl
theorem rs_101_73 (q : Nat × Nat × Nat × Nat × Nat) : Rs q 101 73 = 156 := rfl
theorem rs_101_76 (q : Nat × Nat × Nat × Nat × Nat) : Rs q 101 76 = 157 := rfl
theorem rc_0 : RC 0 = RX0 := rfl
theorem rc_1 : RC 1 = RX1 := rfl
theorem rc_2 : RC 2 = RX2 := rfl
theorem rc_3 : RC 3 = RX3 := rfl
theorem rc_4 : RC 4 = RX4 := rfl
theorem rc_5 : RC 5 = RX5 := rfl
theorem rc_6 : RC 6 = RX6 := rfl
theorem rc_7 : RC 7 = RX7 := rfl
theorem rc_8 : RC 8 = RX8 := rfl
theorem rc_9 : RC 9 = RX9 := rfl
theorem rc_10 : RC 10 = RX11 := rfl
theorem rc_11 : RC 11 = RX12 := rfl
