set_option maxRecDepth 100000 in
theorem cmv_J0_isLatin1_aae02 : CMV miJ0_isLatin1_aae02 0 := ⟨TG_t3 67 rfl rfl, TG_t1 13 (by decide +kernel) rfl, ⟨by decide +kernel, by decide +kernel, by decide +kernel⟩, by decide, TG_t3 65 (by decide +kernel) rfl, TG_t3 66 (by decide +kernel) rfl⟩
set_option maxRecDepth 100000 in
theorem cmv_J0_coder_7d493 : CMV miJ0_coder_7d493 0 := ⟨TG_t3 77 rfl rfl, TG_t1 13 (by decide +kernel) rfl, ⟨by decide +kernel, by decide +kernel, by decide +kernel⟩, by decide, TG_t3 75 (by decide +kernel) rfl, TG_t3 76 (by decide +kernel) rfl⟩
set_option maxRecDepth 100000 in
theorem cmv_J0_length_8abf5 : CMV miJ0_length_8abf5 0 := ⟨TG_t3 73 rfl rfl, TG_t1 13 (by decide +kernel) rfl, ⟨by decide +kernel, by decide +kernel, by decide +kernel⟩, by decide, TG_t3 71 (by decide +kernel) rfl, TG_t3 72 (by decide +kernel) rfl⟩
set_option maxRecDepth 100000 in
theorem cms_J1_canEncode_9a6ad : CMS miJ1_canEncode_9a6ad 1 := ⟨TG_t3 83 rfl rfl, TG_t1 14 (by decide +kernel) rfl, ⟨by decide +kernel, by decide +kernel, by decide +kernel⟩, by decide, TG_t3 82 (by decide +kernel) rfl⟩
set_option maxRecDepth 100000 in
theorem cms_J1_indexOfChar_4cfef : CMS miJ1_indexOfChar_4cfef 4 := ⟨TG_t3 92 rfl rfl, TG_t1 14 (by decide +kernel) rfl, ⟨by decide +kernel, by decide +kernel, by decide +kernel⟩, by decide, TG_t3 91 (by decide +kernel) rfl⟩
set_option maxRecDepth 100000 in
theorem cms_J1_indexOf_4cfef : CMS miJ1_indexOf_4cfef 4 := ⟨TG_t3 80 rfl rfl, TG_t1 14 (by decide +kernel) rfl, ⟨by decide +kernel, by decide +kernel, by decide +kernel⟩, by decide, TG_t3 79 (by decide +kernel) rfl⟩
set_option maxRecDepth 100000 in
theorem cmv_J0_indexOf_7cf53 : CMV miJ0_indexOf_7cf53 2 := ⟨TG_t3 63 rfl rfl, TG_t1 13 (by decide +kernel) rfl, ⟨by decide +kernel, by decide +kernel, by decide +kernel⟩, by decide, TG_t3 61 (by decide +kernel) rfl, TG_t3 62 (by decide +kernel) rfl⟩
theorem tl_J0_38 : Cond.fieldLink RJ0 38 "java/lang/String" "COMPACT_STRINGS" "Z" ∈ TG := TG_t3 68 (by decide +kernel) rfl
theorem tl_J0_15 : Cond.fieldLink RJ0 15 "java/lang/String" "coder" "B" ∈ TG := TG_t9 42 (by decide +kernel) rfl
theorem cv_J0_492 : CV RJ0 492 miJ0_isLatin1_aae02 0 := CV.of cmv_J0_isLatin1_aae02 (TG_t3 64 (by decide +kernel) rfl)
theorem tl_J0_9 : Cond.fieldLink RJ0 9 "java/lang/String" "value" "[B" ∈ TG := TG_t9 43 (by decide +kernel) rfl
theorem cv_J0_335 : CV RJ0 335 miJ0_coder_7d493 0 := CV.of cmv_J0_coder_7d493 (TG_t3 74 (by decide +kernel) rfl)
theorem cv_J0_505 : CV RJ0 505 miJ0_length_8abf5 0 := CV.of cmv_J0_length_8abf5 (TG_t3 70 (by decide +kernel) rfl)
theorem cs_J1_88 : CS RJ1 88 miJ1_canEncode_9a6ad 1 := CS.of cms_J1_canEncode_9a6ad (TG_t3 81 (by decide +kernel) rfl)
theorem mm_J1_92 : Cond.methodLink RJ1 92 Lib.Math.max.name ∈ TG := TG_t3 84 (by decide +kernel) rfl
theorem mm_J1_38 : Cond.methodLink RJ1 38 Lib.Math.min.name ∈ TG := TG_t3 87 (by decide +kernel) rfl
theorem cs_J1_95 : CS RJ1 95 miJ1_indexOfChar_4cfef 4 := CS.of cms_J1_indexOfChar_4cfef (TG_t3 90 (by decide +kernel) rfl)
theorem cs_J0_637 : CS RJ0 637 miJ1_indexOf_4cfef 4 := CS.of cms_J1_indexOf_4cfef (TG_t3 78 (by decide +kernel) rfl)
theorem cv_J0_633 : CV RJ0 633 miJ0_indexOf_7cf53 2 := CV.of cmv_J0_indexOf_7cf53 (TG_t3 60 (by decide +kernel) rfl)
set_option maxRecDepth 100000 in
theorem cn_X5_97 : CMV0 miX3_readWhole 2 := ⟨TG_t4 15 rfl rfl, TG_t1 9 (by decide +kernel) rfl, ⟨by decide +kernel, by decide +kernel, by decide +kernel⟩, by decide, TG_t4 14 (by decide +kernel) rfl, TG_p 9 (by decide +kernel) rfl⟩
