theorem dX8_init_0 : decode cX8_init 0 = .ok (.aload_n 0, 1) := by decide +kernel
theorem dX8_init_1 : decode cX8_init 1 = .ok (.invokespecial 3, 3) := by decide +kernel
theorem dX8_init_4 : decode cX8_init 4 = .ok (.aload_n 0, 1) := by decide +kernel
theorem dX8_init_5 : decode cX8_init 5 = .ok (.sipush 1000, 3) := by decide +kernel
theorem dX8_init_8 : decode cX8_init 8 = .ok (.newarray .char, 2) := by decide +kernel
theorem dX8_init_10 : decode cX8_init 10 = .ok (.putfield 9, 3) := by decide +kernel
theorem dX8_init_13 : decode cX8_init 13 = .ok (.return_, 1) := by decide +kernel
theorem dX8_append_0 : decode cX8_append 0 = .ok (.bipush 56, 2) := by decide +kernel
theorem dX8_append_2 : decode cX8_append 2 = .ok (.istore_n 3, 1) := by decide +kernel
theorem dX8_append_3 : decode cX8_append 3 = .ok (.iload_n 3, 1) := by decide +kernel
theorem dX8_append_4 : decode cX8_append 4 = .ok (.ifCond .lt 74, 3) := by decide +kernel
theorem dX8_append_7 : decode cX8_append 7 = .ok (.lload_n 1, 1) := by decide +kernel
theorem dX8_append_8 : decode cX8_append 8 = .ok (.iload_n 3, 1) := by decide +kernel
theorem dX8_append_9 : decode cX8_append 9 = .ok (.lushr, 1) := by decide +kernel
theorem dX8_append_10 : decode cX8_append 10 = .ok (.ldc2_w 15, 3) := by decide +kernel
theorem dX8_append_13 : decode cX8_append 13 = .ok (.land, 1) := by decide +kernel
theorem dX8_append_14 : decode cX8_append 14 = .ok (.l2i, 1) := by decide +kernel
theorem dX8_append_15 : decode cX8_append 15 = .ok (.istore 4, 2) := by decide +kernel
theorem dX8_append_17 : decode cX8_append 17 = .ok (.iload 4, 2) := by decide +kernel
theorem dX8_append_19 : decode cX8_append 19 = .ok (.bipush 10, 2) := by decide +kernel
theorem dX8_append_21 : decode cX8_append 21 = .ok (.if_icmp .eq 17, 3) := by decide +kernel
theorem dX8_append_24 : decode cX8_append 24 = .ok (.iload 4, 2) := by decide +kernel
theorem dX8_append_26 : decode cX8_append 26 = .ok (.bipush 32, 2) := by decide +kernel
theorem dX8_append_28 : decode cX8_append 28 = .ok (.if_icmp .lt 44, 3) := by decide +kernel
theorem dX8_append_31 : decode cX8_append 31 = .ok (.iload 4, 2) := by decide +kernel
theorem dX8_append_33 : decode cX8_append 33 = .ok (.bipush 126, 2) := by decide +kernel
theorem dX8_append_35 : decode cX8_append 35 = .ok (.if_icmp .gt 37, 3) := by decide +kernel
theorem dX8_append_38 : decode cX8_append 38 = .ok (.aload_n 0, 1) := by decide +kernel
theorem dX8_append_39 : decode cX8_append 39 = .ok (.getfield 17, 3) := by decide +kernel
theorem dX8_append_42 : decode cX8_append 42 = .ok (.aload_n 0, 1) := by decide +kernel
theorem dX8_append_43 : decode cX8_append 43 = .ok (.getfield 9, 3) := by decide +kernel
theorem dX8_append_46 : decode cX8_append 46 = .ok (.arraylength, 1) := by decide +kernel
theorem dX8_append_47 : decode cX8_append 47 = .ok (.if_icmp .ge 25, 3) := by decide +kernel
theorem dX8_append_50 : decode cX8_append 50 = .ok (.aload_n 0, 1) := by decide +kernel
theorem dX8_append_51 : decode cX8_append 51 = .ok (.getfield 9, 3) := by decide +kernel
theorem dX8_append_54 : decode cX8_append 54 = .ok (.aload_n 0, 1) := by decide +kernel
theorem dX8_append_55 : decode cX8_append 55 = .ok (.getfield 17, 3) := by decide +kernel
theorem dX8_append_58 : decode cX8_append 58 = .ok (.iload 4, 2) := by decide +kernel
theorem dX8_append_60 : decode cX8_append 60 = .ok (.i2c, 1) := by decide +kernel
theorem dX8_append_61 : decode cX8_append 61 = .ok (.castore, 1) := by decide +kernel
theorem dX8_append_62 : decode cX8_append 62 = .ok (.aload_n 0, 1) := by decide +kernel
theorem dX8_append_63 : decode cX8_append 63 = .ok (.dup, 1) := by decide +kernel
theorem dX8_append_64 : decode cX8_append 64 = .ok (.getfield 17, 3) := by decide +kernel
theorem dX8_append_67 : decode cX8_append 67 = .ok (.iconst 1, 1) := by decide +kernel
theorem dX8_append_68 : decode cX8_append 68 = .ok (.iadd, 1) := by decide +kernel
theorem dX8_append_69 : decode cX8_append 69 = .ok (.putfield 17, 3) := by decide +kernel
theorem dX8_append_72 : decode cX8_append 72 = .ok (.iinc 3 (-8), 3) := by decide +kernel
theorem dX8_append_75 : decode cX8_append 75 = .ok (.goto (-72), 3) := by decide +kernel
theorem dX8_append_78 : decode cX8_append 78 = .ok (.return_, 1) := by decide +kernel
theorem dX8_rewind_0 : decode cX8_rewind 0 = .ok (.aload_n 0, 1) := by decide +kernel
theorem dX8_rewind_1 : decode cX8_rewind 1 = .ok (.iconst 0, 1) := by decide +kernel
theorem dX8_rewind_2 : decode cX8_rewind 2 = .ok (.putfield 21, 3) := by decide +kernel
theorem dX8_rewind_5 : decode cX8_rewind 5 = .ok (.aload_n 0, 1) := by decide +kernel
theorem dX8_rewind_6 : decode cX8_rewind 6 = .ok (.iconst 0, 1) := by decide +kernel
theorem dX8_rewind_7 : decode cX8_rewind 7 = .ok (.putfield 24, 3) := by decide +kernel
theorem dX8_rewind_10 : decode cX8_rewind 10 = .ok (.aload_n 0, 1) := by decide +kernel
theorem dX8_rewind_11 : decode cX8_rewind 11 = .ok (.invokevirtual 27, 3) := by decide +kernel
theorem dX8_rewind_14 : decode cX8_rewind 14 = .ok (.return_, 1) := by decide +kernel
theorem dX8_finish_0 : decode cX8_finish 0 = .ok (.aload_n 0, 1) := by decide +kernel
theorem dX8_finish_1 : decode cX8_finish 1 = .ok (.iconst 0, 1) := by decide +kernel
theorem dX8_finish_2 : decode cX8_finish 2 = .ok (.putfield 17, 3) := by decide +kernel
theorem dX8_finish_5 : decode cX8_finish 5 = .ok (.aload_n 0, 1) := by decide +kernel
theorem dX8_finish_6 : decode cX8_finish 6 = .ok (.getfield 21, 3) := by decide +kernel
theorem dX8_finish_9 : decode cX8_finish 9 = .ok (.ireturn, 1) := by decide +kernel
theorem dX8_goesOn_0 : decode cX8_goesOn 0 = .ok (.aload_n 0, 1) := by decide +kernel
theorem dX8_goesOn_1 : decode cX8_goesOn 1 = .ok (.getfield 21, 3) := by decide +kernel
theorem dX8_goesOn_4 : decode cX8_goesOn 4 = .ok (.ifCond .ne 14, 3) := by decide +kernel
theorem dX8_goesOn_7 : decode cX8_goesOn 7 = .ok (.aload_n 0, 1) := by decide +kernel
theorem dX8_goesOn_8 : decode cX8_goesOn 8 = .ok (.getfield 30, 3) := by decide +kernel
theorem dX8_goesOn_11 : decode cX8_goesOn 11 = .ok (.ifCond .eq 7, 3) := by decide +kernel
theorem dX8_goesOn_14 : decode cX8_goesOn 14 = .ok (.iconst 1, 1) := by decide +kernel
theorem dX8_goesOn_15 : decode cX8_goesOn 15 = .ok (.goto 4, 3) := by decide +kernel
theorem dX8_goesOn_18 : decode cX8_goesOn 18 = .ok (.iconst 0, 1) := by decide +kernel
theorem dX8_goesOn_19 : decode cX8_goesOn 19 = .ok (.ireturn, 1) := by decide +kernel
theorem dX8_fail_0 : decode cX8_fail 0 = .ok (.aload_n 0, 1) := by decide +kernel
theorem dX8_fail_1 : decode cX8_fail 1 = .ok (.getfield 21, 3) := by decide +kernel
theorem dX8_fail_4 : decode cX8_fail 4 = .ok (.ifCond .ne 16, 3) := by decide +kernel
theorem dX8_fail_7 : decode cX8_fail 7 = .ok (.aload_n 0, 1) := by decide +kernel
theorem dX8_fail_8 : decode cX8_fail 8 = .ok (.iload_n 1, 1) := by decide +kernel
theorem dX8_fail_9 : decode cX8_fail 9 = .ok (.bipush 16, 2) := by decide +kernel
theorem dX8_fail_11 : decode cX8_fail 11 = .ok (.aload_n 0, 1) := by decide +kernel
theorem dX8_fail_12 : decode cX8_fail 12 = .ok (.getfield 33, 3) := by decide +kernel
theorem dX8_fail_15 : decode cX8_fail 15 = .ok (.imul, 1) := by decide +kernel
theorem dX8_fail_16 : decode cX8_fail 16 = .ok (.iadd, 1) := by decide +kernel
theorem dX8_fail_17 : decode cX8_fail 17 = .ok (.putfield 21, 3) := by decide +kernel
theorem dX8_fail_20 : decode cX8_fail 20 = .ok (.aload_n 0, 1) := by decide +kernel
theorem dX8_fail_21 : decode cX8_fail 21 = .ok (.iconst 4, 1) := by decide +kernel
theorem dX8_fail_22 : decode cX8_fail 22 = .ok (.putfield 30, 3) := by decide +kernel
theorem dX8_fail_25 : decode cX8_fail 25 = .ok (.aload_n 0, 1) := by decide +kernel
theorem dX8_fail_26 : decode cX8_fail 26 = .ok (.aconst_null, 1) := by decide +kernel
theorem dX8_fail_27 : decode cX8_fail 27 = .ok (.putfield 36, 3) := by decide +kernel
theorem dX8_fail_30 : decode cX8_fail 30 = .ok (.return_, 1) := by decide +kernel
theorem dX8_step_0 : decode cX8_step 0 = .ok (.aload_n 0, 1) := by decide +kernel
theorem dX8_step_1 : decode cX8_step 1 = .ok (.getfield 21, 3) := by decide +kernel
theorem dX8_step_4 : decode cX8_step 4 = .ok (.ifCond .eq 4, 3) := by decide +kernel
theorem dX8_step_7 : decode cX8_step 7 = .ok (.return_, 1) := by decide +kernel
theorem dX8_step_8 : decode cX8_step 8 = .ok (.aload_n 0, 1) := by decide +kernel
theorem dX8_step_9 : decode cX8_step 9 = .ok (.getfield 24, 3) := by decide +kernel
theorem dX8_step_12 : decode cX8_step 12 = .ok (.aload_n 0, 1) := by decide +kernel
theorem dX8_step_13 : decode cX8_step 13 = .ok (.getfield 17, 3) := by decide +kernel
theorem dX8_step_16 : decode cX8_step 16 = .ok (.if_icmp .ge 44, 3) := by decide +kernel
theorem dX8_step_19 : decode cX8_step 19 = .ok (.aload_n 0, 1) := by decide +kernel
theorem dX8_step_20 : decode cX8_step 20 = .ok (.getfield 9, 3) := by decide +kernel
theorem dX8_step_23 : decode cX8_step 23 = .ok (.aload_n 0, 1) := by decide +kernel
theorem dX8_step_24 : decode cX8_step 24 = .ok (.getfield 24, 3) := by decide +kernel
theorem dX8_step_27 : decode cX8_step 27 = .ok (.caload, 1) := by decide +kernel
theorem dX8_step_28 : decode cX8_step 28 = .ok (.bipush 32, 2) := by decide +kernel
theorem dX8_step_30 : decode cX8_step 30 = .ok (.if_icmp .eq 17, 3) := by decide +kernel
theorem dX8_step_33 : decode cX8_step 33 = .ok (.aload_n 0, 1) := by decide +kernel
theorem dX8_step_34 : decode cX8_step 34 = .ok (.getfield 9, 3) := by decide +kernel
theorem dX8_step_37 : decode cX8_step 37 = .ok (.aload_n 0, 1) := by decide +kernel
theorem dX8_step_38 : decode cX8_step 38 = .ok (.getfield 24, 3) := by decide +kernel
theorem dX8_step_41 : decode cX8_step 41 = .ok (.caload, 1) := by decide +kernel
theorem dX8_step_42 : decode cX8_step 42 = .ok (.bipush 10, 2) := by decide +kernel
theorem dX8_step_44 : decode cX8_step 44 = .ok (.if_icmp .ne 16, 3) := by decide +kernel
theorem dX8_step_47 : decode cX8_step 47 = .ok (.aload_n 0, 1) := by decide +kernel
theorem dX8_step_48 : decode cX8_step 48 = .ok (.dup, 1) := by decide +kernel
theorem dX8_step_49 : decode cX8_step 49 = .ok (.getfield 24, 3) := by decide +kernel
theorem dX8_step_52 : decode cX8_step 52 = .ok (.iconst 1, 1) := by decide +kernel
theorem dX8_step_53 : decode cX8_step 53 = .ok (.iadd, 1) := by decide +kernel
theorem dX8_step_54 : decode cX8_step 54 = .ok (.putfield 24, 3) := by decide +kernel
theorem dX8_step_57 : decode cX8_step 57 = .ok (.goto (-49), 3) := by decide +kernel
theorem dX8_step_60 : decode cX8_step 60 = .ok (.aload_n 0, 1) := by decide +kernel
theorem dX8_step_61 : decode cX8_step 61 = .ok (.aload_n 0, 1) := by decide +kernel
theorem dX8_step_62 : decode cX8_step 62 = .ok (.getfield 24, 3) := by decide +kernel
theorem dX8_step_65 : decode cX8_step 65 = .ok (.putfield 33, 3) := by decide +kernel
theorem dX8_step_68 : decode cX8_step 68 = .ok (.aload_n 0, 1) := by decide +kernel
theorem dX8_step_69 : decode cX8_step 69 = .ok (.aconst_null, 1) := by decide +kernel
theorem dX8_step_70 : decode cX8_step 70 = .ok (.putfield 36, 3) := by decide +kernel
theorem dX8_step_73 : decode cX8_step 73 = .ok (.aload_n 0, 1) := by decide +kernel
theorem dX8_step_74 : decode cX8_step 74 = .ok (.lconst 0, 1) := by decide +kernel
theorem dX8_step_75 : decode cX8_step 75 = .ok (.putfield 40, 3) := by decide +kernel
theorem dX8_step_78 : decode cX8_step 78 = .ok (.aload_n 0, 1) := by decide +kernel
theorem dX8_step_79 : decode cX8_step 79 = .ok (.getfield 24, 3) := by decide +kernel
theorem dX8_step_82 : decode cX8_step 82 = .ok (.aload_n 0, 1) := by decide +kernel
theorem dX8_step_83 : decode cX8_step 83 = .ok (.getfield 17, 3) := by decide +kernel
theorem dX8_step_86 : decode cX8_step 86 = .ok (.if_icmp .lt 11, 3) := by decide +kernel
theorem dX8_step_89 : decode cX8_step 89 = .ok (.aload_n 0, 1) := by decide +kernel
theorem dX8_step_90 : decode cX8_step 90 = .ok (.iconst 0, 1) := by decide +kernel
theorem dX8_step_91 : decode cX8_step 91 = .ok (.putfield 30, 3) := by decide +kernel
theorem dX8_step_94 : decode cX8_step 94 = .ok (.goto 117, 3) := by decide +kernel
theorem dX8_step_97 : decode cX8_step 97 = .ok (.aload_n 0, 1) := by decide +kernel
theorem dX8_step_98 : decode cX8_step 98 = .ok (.getfield 9, 3) := by decide +kernel
theorem dX8_step_101 : decode cX8_step 101 = .ok (.aload_n 0, 1) := by decide +kernel
theorem dX8_step_102 : decode cX8_step 102 = .ok (.getfield 24, 3) := by decide +kernel
theorem dX8_step_105 : decode cX8_step 105 = .ok (.caload, 1) := by decide +kernel
theorem dX8_step_106 : decode cX8_step 106 = .ok (.bipush 97, 2) := by decide +kernel
theorem dX8_step_108 : decode cX8_step 108 = .ok (.if_icmp .lt 24, 3) := by decide +kernel
theorem dX8_step_111 : decode cX8_step 111 = .ok (.aload_n 0, 1) := by decide +kernel
theorem dX8_step_112 : decode cX8_step 112 = .ok (.getfield 9, 3) := by decide +kernel
theorem dX8_step_115 : decode cX8_step 115 = .ok (.aload_n 0, 1) := by decide +kernel
theorem dX8_step_116 : decode cX8_step 116 = .ok (.getfield 24, 3) := by decide +kernel
theorem dX8_step_119 : decode cX8_step 119 = .ok (.caload, 1) := by decide +kernel
theorem dX8_step_120 : decode cX8_step 120 = .ok (.bipush 122, 2) := by decide +kernel
theorem dX8_step_122 : decode cX8_step 122 = .ok (.if_icmp .gt 10, 3) := by decide +kernel
theorem dX8_step_125 : decode cX8_step 125 = .ok (.aload_n 0, 1) := by decide +kernel
theorem dX8_step_126 : decode cX8_step 126 = .ok (.invokevirtual 44, 3) := by decide +kernel
theorem dX8_step_129 : decode cX8_step 129 = .ok (.goto 82, 3) := by decide +kernel
theorem dX8_step_132 : decode cX8_step 132 = .ok (.aload_n 0, 1) := by decide +kernel
theorem dX8_step_133 : decode cX8_step 133 = .ok (.getfield 9, 3) := by decide +kernel
theorem dX8_step_136 : decode cX8_step 136 = .ok (.aload_n 0, 1) := by decide +kernel
theorem dX8_step_137 : decode cX8_step 137 = .ok (.getfield 24, 3) := by decide +kernel
theorem dX8_step_140 : decode cX8_step 140 = .ok (.caload, 1) := by decide +kernel
theorem dX8_step_141 : decode cX8_step 141 = .ok (.bipush 48, 2) := by decide +kernel
theorem dX8_step_143 : decode cX8_step 143 = .ok (.if_icmp .lt 24, 3) := by decide +kernel
theorem dX8_step_146 : decode cX8_step 146 = .ok (.aload_n 0, 1) := by decide +kernel
theorem dX8_step_147 : decode cX8_step 147 = .ok (.getfield 9, 3) := by decide +kernel
theorem dX8_step_150 : decode cX8_step 150 = .ok (.aload_n 0, 1) := by decide +kernel
theorem dX8_step_151 : decode cX8_step 151 = .ok (.getfield 24, 3) := by decide +kernel
theorem dX8_step_154 : decode cX8_step 154 = .ok (.caload, 1) := by decide +kernel
theorem dX8_step_155 : decode cX8_step 155 = .ok (.bipush 57, 2) := by decide +kernel
theorem dX8_step_157 : decode cX8_step 157 = .ok (.if_icmp .gt 10, 3) := by decide +kernel
theorem dX8_step_160 : decode cX8_step 160 = .ok (.aload_n 0, 1) := by decide +kernel
theorem dX8_step_161 : decode cX8_step 161 = .ok (.invokevirtual 47, 3) := by decide +kernel
theorem dX8_step_164 : decode cX8_step 164 = .ok (.goto 47, 3) := by decide +kernel
theorem dX8_step_167 : decode cX8_step 167 = .ok (.aload_n 0, 1) := by decide +kernel
theorem dX8_step_168 : decode cX8_step 168 = .ok (.aload_n 0, 1) := by decide +kernel
theorem dX8_step_169 : decode cX8_step 169 = .ok (.getfield 9, 3) := by decide +kernel
theorem dX8_step_172 : decode cX8_step 172 = .ok (.aload_n 0, 1) := by decide +kernel
theorem dX8_step_173 : decode cX8_step 173 = .ok (.getfield 24, 3) := by decide +kernel
theorem dX8_step_176 : decode cX8_step 176 = .ok (.caload, 1) := by decide +kernel
theorem dX8_step_177 : decode cX8_step 177 = .ok (.putfield 50, 3) := by decide +kernel
theorem dX8_step_180 : decode cX8_step 180 = .ok (.aload_n 0, 1) := by decide +kernel
theorem dX8_step_181 : decode cX8_step 181 = .ok (.dup, 1) := by decide +kernel
theorem dX8_step_182 : decode cX8_step 182 = .ok (.getfield 24, 3) := by decide +kernel
theorem dX8_step_185 : decode cX8_step 185 = .ok (.iconst 1, 1) := by decide +kernel
theorem dX8_step_186 : decode cX8_step 186 = .ok (.iadd, 1) := by decide +kernel
theorem dX8_step_187 : decode cX8_step 187 = .ok (.putfield 24, 3) := by decide +kernel
theorem dX8_step_190 : decode cX8_step 190 = .ok (.aload_n 0, 1) := by decide +kernel
theorem dX8_step_191 : decode cX8_step 191 = .ok (.ldc 54, 2) := by decide +kernel
theorem dX8_step_193 : decode cX8_step 193 = .ok (.aload_n 0, 1) := by decide +kernel
theorem dX8_step_194 : decode cX8_step 194 = .ok (.getfield 50, 3) := by decide +kernel
theorem dX8_step_197 : decode cX8_step 197 = .ok (.invokevirtual 56, 3) := by decide +kernel
theorem dX8_step_200 : decode cX8_step 200 = .ok (.ifCond .lt 7, 3) := by decide +kernel
theorem dX8_step_203 : decode cX8_step 203 = .ok (.iconst 3, 1) := by decide +kernel
theorem dX8_step_204 : decode cX8_step 204 = .ok (.goto 4, 3) := by decide +kernel
theorem dX8_step_207 : decode cX8_step 207 = .ok (.iconst 4, 1) := by decide +kernel
theorem dX8_step_208 : decode cX8_step 208 = .ok (.putfield 30, 3) := by decide +kernel
theorem dX8_step_211 : decode cX8_step 211 = .ok (.return_, 1) := by decide +kernel
theorem dX8_stepWord_0 : decode cX8_stepWord 0 = .ok (.aload_n 0, 1) := by decide +kernel
theorem dX8_stepWord_1 : decode cX8_stepWord 1 = .ok (.getfield 24, 3) := by decide +kernel
theorem dX8_stepWord_4 : decode cX8_stepWord 4 = .ok (.aload_n 0, 1) := by decide +kernel
theorem dX8_stepWord_5 : decode cX8_stepWord 5 = .ok (.getfield 17, 3) := by decide +kernel
theorem dX8_stepWord_8 : decode cX8_stepWord 8 = .ok (.if_icmp .ge 72, 3) := by decide +kernel
theorem dX8_stepWord_11 : decode cX8_stepWord 11 = .ok (.aload_n 0, 1) := by decide +kernel
theorem dX8_stepWord_12 : decode cX8_stepWord 12 = .ok (.getfield 9, 3) := by decide +kernel
theorem dX8_stepWord_15 : decode cX8_stepWord 15 = .ok (.aload_n 0, 1) := by decide +kernel
theorem dX8_stepWord_16 : decode cX8_stepWord 16 = .ok (.getfield 24, 3) := by decide +kernel
theorem dX8_stepWord_19 : decode cX8_stepWord 19 = .ok (.caload, 1) := by decide +kernel
theorem dX8_stepWord_20 : decode cX8_stepWord 20 = .ok (.bipush 97, 2) := by decide +kernel
theorem dX8_stepWord_22 : decode cX8_stepWord 22 = .ok (.if_icmp .lt 58, 3) := by decide +kernel
theorem dX8_stepWord_25 : decode cX8_stepWord 25 = .ok (.aload_n 0, 1) := by decide +kernel
theorem dX8_stepWord_26 : decode cX8_stepWord 26 = .ok (.getfield 9, 3) := by decide +kernel
theorem dX8_stepWord_29 : decode cX8_stepWord 29 = .ok (.aload_n 0, 1) := by decide +kernel
theorem dX8_stepWord_30 : decode cX8_stepWord 30 = .ok (.getfield 24, 3) := by decide +kernel
theorem dX8_stepWord_33 : decode cX8_stepWord 33 = .ok (.caload, 1) := by decide +kernel
theorem dX8_stepWord_34 : decode cX8_stepWord 34 = .ok (.bipush 122, 2) := by decide +kernel
theorem dX8_stepWord_36 : decode cX8_stepWord 36 = .ok (.if_icmp .gt 44, 3) := by decide +kernel
theorem dX8_stepWord_39 : decode cX8_stepWord 39 = .ok (.aload_n 0, 1) := by decide +kernel
theorem dX8_stepWord_40 : decode cX8_stepWord 40 = .ok (.aload_n 0, 1) := by decide +kernel
theorem dX8_stepWord_41 : decode cX8_stepWord 41 = .ok (.getfield 40, 3) := by decide +kernel
theorem dX8_stepWord_44 : decode cX8_stepWord 44 = .ok (.ldc2_w 62, 3) := by decide +kernel
theorem dX8_stepWord_47 : decode cX8_stepWord 47 = .ok (.lmul, 1) := by decide +kernel
theorem dX8_stepWord_48 : decode cX8_stepWord 48 = .ok (.aload_n 0, 1) := by decide +kernel
theorem dX8_stepWord_49 : decode cX8_stepWord 49 = .ok (.getfield 9, 3) := by decide +kernel
theorem dX8_stepWord_52 : decode cX8_stepWord 52 = .ok (.aload_n 0, 1) := by decide +kernel
theorem dX8_stepWord_53 : decode cX8_stepWord 53 = .ok (.getfield 24, 3) := by decide +kernel
theorem dX8_stepWord_56 : decode cX8_stepWord 56 = .ok (.caload, 1) := by decide +kernel
theorem dX8_stepWord_57 : decode cX8_stepWord 57 = .ok (.bipush 97, 2) := by decide +kernel
theorem dX8_stepWord_59 : decode cX8_stepWord 59 = .ok (.isub, 1) := by decide +kernel
theorem dX8_stepWord_60 : decode cX8_stepWord 60 = .ok (.iconst 1, 1) := by decide +kernel
theorem dX8_stepWord_61 : decode cX8_stepWord 61 = .ok (.iadd, 1) := by decide +kernel
theorem dX8_stepWord_62 : decode cX8_stepWord 62 = .ok (.i2l, 1) := by decide +kernel
theorem dX8_stepWord_63 : decode cX8_stepWord 63 = .ok (.ladd, 1) := by decide +kernel
theorem dX8_stepWord_64 : decode cX8_stepWord 64 = .ok (.putfield 40, 3) := by decide +kernel
theorem dX8_stepWord_67 : decode cX8_stepWord 67 = .ok (.aload_n 0, 1) := by decide +kernel
theorem dX8_stepWord_68 : decode cX8_stepWord 68 = .ok (.dup, 1) := by decide +kernel
theorem dX8_stepWord_69 : decode cX8_stepWord 69 = .ok (.getfield 24, 3) := by decide +kernel
theorem dX8_stepWord_72 : decode cX8_stepWord 72 = .ok (.iconst 1, 1) := by decide +kernel
theorem dX8_stepWord_73 : decode cX8_stepWord 73 = .ok (.iadd, 1) := by decide +kernel
theorem dX8_stepWord_74 : decode cX8_stepWord 74 = .ok (.putfield 24, 3) := by decide +kernel
theorem dX8_stepWord_77 : decode cX8_stepWord 77 = .ok (.goto (-77), 3) := by decide +kernel
theorem dX8_stepWord_80 : decode cX8_stepWord 80 = .ok (.aload_n 0, 1) := by decide +kernel
theorem dX8_stepWord_81 : decode cX8_stepWord 81 = .ok (.getfield 24, 3) := by decide +kernel
theorem dX8_stepWord_84 : decode cX8_stepWord 84 = .ok (.aload_n 0, 1) := by decide +kernel
theorem dX8_stepWord_85 : decode cX8_stepWord 85 = .ok (.getfield 33, 3) := by decide +kernel
theorem dX8_stepWord_88 : decode cX8_stepWord 88 = .ok (.isub, 1) := by decide +kernel
theorem dX8_stepWord_89 : decode cX8_stepWord 89 = .ok (.bipush 8, 2) := by decide +kernel
theorem dX8_stepWord_91 : decode cX8_stepWord 91 = .ok (.if_icmp .le 9, 3) := by decide +kernel
theorem dX8_stepWord_94 : decode cX8_stepWord 94 = .ok (.aload_n 0, 1) := by decide +kernel
theorem dX8_stepWord_95 : decode cX8_stepWord 95 = .ok (.iconst 4, 1) := by decide +kernel
theorem dX8_stepWord_96 : decode cX8_stepWord 96 = .ok (.putfield 30, 3) := by decide +kernel
theorem dX8_stepWord_99 : decode cX8_stepWord 99 = .ok (.return_, 1) := by decide +kernel
theorem dX8_stepWord_100 : decode cX8_stepWord 100 = .ok (.aload_n 0, 1) := by decide +kernel
theorem dX8_stepWord_101 : decode cX8_stepWord 101 = .ok (.iconst 1, 1) := by decide +kernel
theorem dX8_stepWord_102 : decode cX8_stepWord 102 = .ok (.putfield 30, 3) := by decide +kernel
theorem dX8_stepWord_105 : decode cX8_stepWord 105 = .ok (.iconst 0, 1) := by decide +kernel
theorem dX8_stepWord_106 : decode cX8_stepWord 106 = .ok (.istore_n 1, 1) := by decide +kernel
theorem dX8_stepWord_107 : decode cX8_stepWord 107 = .ok (.iload_n 1, 1) := by decide +kernel
theorem dX8_stepWord_108 : decode cX8_stepWord 108 = .ok (.getstatic 64, 3) := by decide +kernel
theorem dX8_stepWord_111 : decode cX8_stepWord 111 = .ok (.arraylength, 1) := by decide +kernel
theorem dX8_stepWord_112 : decode cX8_stepWord 112 = .ok (.if_icmp .ge 34, 3) := by decide +kernel
theorem dX8_stepWord_115 : decode cX8_stepWord 115 = .ok (.getstatic 64, 3) := by decide +kernel
theorem dX8_stepWord_118 : decode cX8_stepWord 118 = .ok (.iload_n 1, 1) := by decide +kernel
theorem dX8_stepWord_119 : decode cX8_stepWord 119 = .ok (.aaload, 1) := by decide +kernel
theorem dX8_stepWord_120 : decode cX8_stepWord 120 = .ok (.getfield 68, 3) := by decide +kernel
theorem dX8_stepWord_123 : decode cX8_stepWord 123 = .ok (.aload_n 0, 1) := by decide +kernel
theorem dX8_stepWord_124 : decode cX8_stepWord 124 = .ok (.getfield 40, 3) := by decide +kernel
theorem dX8_stepWord_127 : decode cX8_stepWord 127 = .ok (.lcmp, 1) := by decide +kernel
theorem dX8_stepWord_128 : decode cX8_stepWord 128 = .ok (.ifCond .ne 12, 3) := by decide +kernel
theorem dX8_stepWord_131 : decode cX8_stepWord 131 = .ok (.aload_n 0, 1) := by decide +kernel
theorem dX8_stepWord_132 : decode cX8_stepWord 132 = .ok (.getstatic 64, 3) := by decide +kernel
theorem dX8_stepWord_135 : decode cX8_stepWord 135 = .ok (.iload_n 1, 1) := by decide +kernel
theorem dX8_stepWord_136 : decode cX8_stepWord 136 = .ok (.aaload, 1) := by decide +kernel
theorem dX8_stepWord_137 : decode cX8_stepWord 137 = .ok (.putfield 36, 3) := by decide +kernel
theorem dX8_stepWord_140 : decode cX8_stepWord 140 = .ok (.iinc 1 1, 3) := by decide +kernel
theorem dX8_stepWord_143 : decode cX8_stepWord 143 = .ok (.goto (-36), 3) := by decide +kernel
theorem dX8_stepWord_146 : decode cX8_stepWord 146 = .ok (.return_, 1) := by decide +kernel
theorem dX8_stepNumber_0 : decode cX8_stepNumber 0 = .ok (.aload_n 0, 1) := by decide +kernel
theorem dX8_stepNumber_1 : decode cX8_stepNumber 1 = .ok (.iconst 0, 1) := by decide +kernel
theorem dX8_stepNumber_2 : decode cX8_stepNumber 2 = .ok (.putfield 71, 3) := by decide +kernel
theorem dX8_stepNumber_5 : decode cX8_stepNumber 5 = .ok (.aload_n 0, 1) := by decide +kernel
theorem dX8_stepNumber_6 : decode cX8_stepNumber 6 = .ok (.getfield 24, 3) := by decide +kernel
theorem dX8_stepNumber_9 : decode cX8_stepNumber 9 = .ok (.aload_n 0, 1) := by decide +kernel
theorem dX8_stepNumber_10 : decode cX8_stepNumber 10 = .ok (.getfield 17, 3) := by decide +kernel
theorem dX8_stepNumber_13 : decode cX8_stepNumber 13 = .ok (.if_icmp .ge 68, 3) := by decide +kernel
theorem dX8_stepNumber_16 : decode cX8_stepNumber 16 = .ok (.aload_n 0, 1) := by decide +kernel
theorem dX8_stepNumber_17 : decode cX8_stepNumber 17 = .ok (.getfield 9, 3) := by decide +kernel
theorem dX8_stepNumber_20 : decode cX8_stepNumber 20 = .ok (.aload_n 0, 1) := by decide +kernel
theorem dX8_stepNumber_21 : decode cX8_stepNumber 21 = .ok (.getfield 24, 3) := by decide +kernel
theorem dX8_stepNumber_24 : decode cX8_stepNumber 24 = .ok (.caload, 1) := by decide +kernel
theorem dX8_stepNumber_25 : decode cX8_stepNumber 25 = .ok (.bipush 48, 2) := by decide +kernel
theorem dX8_stepNumber_27 : decode cX8_stepNumber 27 = .ok (.if_icmp .lt 54, 3) := by decide +kernel
theorem dX8_stepNumber_30 : decode cX8_stepNumber 30 = .ok (.aload_n 0, 1) := by decide +kernel
theorem dX8_stepNumber_31 : decode cX8_stepNumber 31 = .ok (.getfield 9, 3) := by decide +kernel
theorem dX8_stepNumber_34 : decode cX8_stepNumber 34 = .ok (.aload_n 0, 1) := by decide +kernel
theorem dX8_stepNumber_35 : decode cX8_stepNumber 35 = .ok (.getfield 24, 3) := by decide +kernel
theorem dX8_stepNumber_38 : decode cX8_stepNumber 38 = .ok (.caload, 1) := by decide +kernel
theorem dX8_stepNumber_39 : decode cX8_stepNumber 39 = .ok (.bipush 57, 2) := by decide +kernel
theorem dX8_stepNumber_41 : decode cX8_stepNumber 41 = .ok (.if_icmp .gt 40, 3) := by decide +kernel
theorem dX8_stepNumber_44 : decode cX8_stepNumber 44 = .ok (.aload_n 0, 1) := by decide +kernel
theorem dX8_stepNumber_45 : decode cX8_stepNumber 45 = .ok (.aload_n 0, 1) := by decide +kernel
theorem dX8_stepNumber_46 : decode cX8_stepNumber 46 = .ok (.getfield 71, 3) := by decide +kernel
theorem dX8_stepNumber_49 : decode cX8_stepNumber 49 = .ok (.bipush 10, 2) := by decide +kernel
theorem dX8_stepNumber_51 : decode cX8_stepNumber 51 = .ok (.imul, 1) := by decide +kernel
theorem dX8_stepNumber_52 : decode cX8_stepNumber 52 = .ok (.aload_n 0, 1) := by decide +kernel
theorem dX8_stepNumber_53 : decode cX8_stepNumber 53 = .ok (.getfield 9, 3) := by decide +kernel
theorem dX8_stepNumber_56 : decode cX8_stepNumber 56 = .ok (.aload_n 0, 1) := by decide +kernel
theorem dX8_stepNumber_57 : decode cX8_stepNumber 57 = .ok (.getfield 24, 3) := by decide +kernel
theorem dX8_stepNumber_60 : decode cX8_stepNumber 60 = .ok (.caload, 1) := by decide +kernel
theorem dX8_stepNumber_61 : decode cX8_stepNumber 61 = .ok (.bipush 48, 2) := by decide +kernel
theorem dX8_stepNumber_63 : decode cX8_stepNumber 63 = .ok (.isub, 1) := by decide +kernel
theorem dX8_stepNumber_64 : decode cX8_stepNumber 64 = .ok (.iadd, 1) := by decide +kernel
theorem dX8_stepNumber_65 : decode cX8_stepNumber 65 = .ok (.putfield 71, 3) := by decide +kernel
theorem dX8_stepNumber_68 : decode cX8_stepNumber 68 = .ok (.aload_n 0, 1) := by decide +kernel
theorem dX8_stepNumber_69 : decode cX8_stepNumber 69 = .ok (.dup, 1) := by decide +kernel
theorem dX8_stepNumber_70 : decode cX8_stepNumber 70 = .ok (.getfield 24, 3) := by decide +kernel
theorem dX8_stepNumber_73 : decode cX8_stepNumber 73 = .ok (.iconst 1, 1) := by decide +kernel
theorem dX8_stepNumber_74 : decode cX8_stepNumber 74 = .ok (.iadd, 1) := by decide +kernel
theorem dX8_stepNumber_75 : decode cX8_stepNumber 75 = .ok (.putfield 24, 3) := by decide +kernel
theorem dX8_stepNumber_78 : decode cX8_stepNumber 78 = .ok (.goto (-73), 3) := by decide +kernel
theorem dX8_stepNumber_81 : decode cX8_stepNumber 81 = .ok (.aload_n 0, 1) := by decide +kernel
theorem dX8_stepNumber_82 : decode cX8_stepNumber 82 = .ok (.aload_n 0, 1) := by decide +kernel
theorem dX8_stepNumber_83 : decode cX8_stepNumber 83 = .ok (.getfield 24, 3) := by decide +kernel
theorem dX8_stepNumber_86 : decode cX8_stepNumber 86 = .ok (.aload_n 0, 1) := by decide +kernel
theorem dX8_stepNumber_87 : decode cX8_stepNumber 87 = .ok (.getfield 33, 3) := by decide +kernel
theorem dX8_stepNumber_90 : decode cX8_stepNumber 90 = .ok (.isub, 1) := by decide +kernel
theorem dX8_stepNumber_91 : decode cX8_stepNumber 91 = .ok (.iconst 4, 1) := by decide +kernel
theorem dX8_stepNumber_92 : decode cX8_stepNumber 92 = .ok (.if_icmp .le 7, 3) := by decide +kernel
theorem dX8_stepNumber_95 : decode cX8_stepNumber 95 = .ok (.iconst 4, 1) := by decide +kernel
theorem dX8_stepNumber_96 : decode cX8_stepNumber 96 = .ok (.goto 4, 3) := by decide +kernel
theorem dX8_stepNumber_99 : decode cX8_stepNumber 99 = .ok (.iconst 2, 1) := by decide +kernel
theorem dX8_stepNumber_100 : decode cX8_stepNumber 100 = .ok (.putfield 30, 3) := by decide +kernel
theorem dX8_stepNumber_103 : decode cX8_stepNumber 103 = .ok (.return_, 1) := by decide +kernel
theorem dX8_isSign_0 : decode cX8_isSign 0 = .ok (.aload_n 0, 1) := by decide +kernel
theorem dX8_isSign_1 : decode cX8_isSign 1 = .ok (.getfield 30, 3) := by decide +kernel
theorem dX8_isSign_4 : decode cX8_isSign 4 = .ok (.iconst 3, 1) := by decide +kernel
theorem dX8_isSign_5 : decode cX8_isSign 5 = .ok (.if_icmp .ne 15, 3) := by decide +kernel
theorem dX8_isSign_8 : decode cX8_isSign 8 = .ok (.aload_n 0, 1) := by decide +kernel
theorem dX8_isSign_9 : decode cX8_isSign 9 = .ok (.getfield 50, 3) := by decide +kernel
theorem dX8_isSign_12 : decode cX8_isSign 12 = .ok (.iload_n 1, 1) := by decide +kernel
theorem dX8_isSign_13 : decode cX8_isSign 13 = .ok (.if_icmp .ne 7, 3) := by decide +kernel
theorem dX8_isSign_16 : decode cX8_isSign 16 = .ok (.iconst 1, 1) := by decide +kernel
theorem dX8_isSign_17 : decode cX8_isSign 17 = .ok (.goto 4, 3) := by decide +kernel
theorem dX8_isSign_20 : decode cX8_isSign 20 = .ok (.iconst 0, 1) := by decide +kernel
theorem dX8_isSign_21 : decode cX8_isSign 21 = .ok (.ireturn, 1) := by decide +kernel
theorem dX8_isName_0 : decode cX8_isName 0 = .ok (.aload_n 0, 1) := by decide +kernel
theorem dX8_isName_1 : decode cX8_isName 1 = .ok (.getfield 30, 3) := by decide +kernel
theorem dX8_isName_4 : decode cX8_isName 4 = .ok (.iconst 1, 1) := by decide +kernel
theorem dX8_isName_5 : decode cX8_isName 5 = .ok (.if_icmp .ne 25, 3) := by decide +kernel
theorem dX8_isName_8 : decode cX8_isName 8 = .ok (.aload_n 0, 1) := by decide +kernel
theorem dX8_isName_9 : decode cX8_isName 9 = .ok (.getfield 36, 3) := by decide +kernel
theorem dX8_isName_12 : decode cX8_isName 12 = .ok (.ifnull 14, 3) := by decide +kernel
theorem dX8_isName_15 : decode cX8_isName 15 = .ok (.aload_n 0, 1) := by decide +kernel
theorem dX8_isName_16 : decode cX8_isName 16 = .ok (.getfield 36, 3) := by decide +kernel
theorem dX8_isName_19 : decode cX8_isName 19 = .ok (.getfield 74, 3) := by decide +kernel
theorem dX8_isName_22 : decode cX8_isName 22 = .ok (.iconst (-1), 1) := by decide +kernel
theorem dX8_isName_23 : decode cX8_isName 23 = .ok (.if_icmp .ne 7, 3) := by decide +kernel
theorem dX8_isName_26 : decode cX8_isName 26 = .ok (.iconst 1, 1) := by decide +kernel
theorem dX8_isName_27 : decode cX8_isName 27 = .ok (.goto 4, 3) := by decide +kernel
theorem dX8_isName_30 : decode cX8_isName 30 = .ok (.iconst 0, 1) := by decide +kernel
theorem dX8_isName_31 : decode cX8_isName 31 = .ok (.ireturn, 1) := by decide +kernel
theorem dX8_take_0 : decode cX8_take 0 = .ok (.aload_n 0, 1) := by decide +kernel
theorem dX8_take_1 : decode cX8_take 1 = .ok (.getfield 36, 3) := by decide +kernel
theorem dX8_take_4 : decode cX8_take 4 = .ok (.aload_n 1, 1) := by decide +kernel
theorem dX8_take_5 : decode cX8_take 5 = .ok (.if_acmp .ne 10, 3) := by decide +kernel
theorem dX8_take_8 : decode cX8_take 8 = .ok (.aload_n 0, 1) := by decide +kernel
theorem dX8_take_9 : decode cX8_take 9 = .ok (.invokevirtual 27, 3) := by decide +kernel
theorem dX8_take_12 : decode cX8_take 12 = .ok (.goto 8, 3) := by decide +kernel
theorem dX8_take_15 : decode cX8_take 15 = .ok (.aload_n 0, 1) := by decide +kernel
theorem dX8_take_16 : decode cX8_take 16 = .ok (.iconst 1, 1) := by decide +kernel
theorem dX8_take_17 : decode cX8_take 17 = .ok (.invokevirtual 77, 3) := by decide +kernel
theorem dX8_take_20 : decode cX8_take 20 = .ok (.return_, 1) := by decide +kernel
theorem dX8_takeSign_0 : decode cX8_takeSign 0 = .ok (.aload_n 0, 1) := by decide +kernel
theorem dX8_takeSign_1 : decode cX8_takeSign 1 = .ok (.iload_n 1, 1) := by decide +kernel
theorem dX8_takeSign_2 : decode cX8_takeSign 2 = .ok (.invokevirtual 81, 3) := by decide +kernel
theorem dX8_takeSign_5 : decode cX8_takeSign 5 = .ok (.ifCond .eq 10, 3) := by decide +kernel
theorem dX8_takeSign_8 : decode cX8_takeSign 8 = .ok (.aload_n 0, 1) := by decide +kernel
theorem dX8_takeSign_9 : decode cX8_takeSign 9 = .ok (.invokevirtual 27, 3) := by decide +kernel
theorem dX8_takeSign_12 : decode cX8_takeSign 12 = .ok (.goto 8, 3) := by decide +kernel
theorem dX8_takeSign_15 : decode cX8_takeSign 15 = .ok (.aload_n 0, 1) := by decide +kernel
theorem dX8_takeSign_16 : decode cX8_takeSign 16 = .ok (.iconst 1, 1) := by decide +kernel
theorem dX8_takeSign_17 : decode cX8_takeSign 17 = .ok (.invokevirtual 77, 3) := by decide +kernel
theorem dX8_takeSign_20 : decode cX8_takeSign 20 = .ok (.return_, 1) := by decide +kernel
theorem dX8_takeNumber_0 : decode cX8_takeNumber 0 = .ok (.aload_n 0, 1) := by decide +kernel
theorem dX8_takeNumber_1 : decode cX8_takeNumber 1 = .ok (.getfield 71, 3) := by decide +kernel
theorem dX8_takeNumber_4 : decode cX8_takeNumber 4 = .ok (.istore_n 3, 1) := by decide +kernel
theorem dX8_takeNumber_5 : decode cX8_takeNumber 5 = .ok (.aload_n 0, 1) := by decide +kernel
theorem dX8_takeNumber_6 : decode cX8_takeNumber 6 = .ok (.getfield 30, 3) := by decide +kernel
theorem dX8_takeNumber_9 : decode cX8_takeNumber 9 = .ok (.iconst 2, 1) := by decide +kernel
theorem dX8_takeNumber_10 : decode cX8_takeNumber 10 = .ok (.if_icmp .eq 11, 3) := by decide +kernel
theorem dX8_takeNumber_13 : decode cX8_takeNumber 13 = .ok (.aload_n 0, 1) := by decide +kernel
theorem dX8_takeNumber_14 : decode cX8_takeNumber 14 = .ok (.iconst 1, 1) := by decide +kernel
theorem dX8_takeNumber_15 : decode cX8_takeNumber 15 = .ok (.invokevirtual 77, 3) := by decide +kernel
theorem dX8_takeNumber_18 : decode cX8_takeNumber 18 = .ok (.goto 27, 3) := by decide +kernel
theorem dX8_takeNumber_21 : decode cX8_takeNumber 21 = .ok (.iload_n 3, 1) := by decide +kernel
theorem dX8_takeNumber_22 : decode cX8_takeNumber 22 = .ok (.iload_n 1, 1) := by decide +kernel
theorem dX8_takeNumber_23 : decode cX8_takeNumber 23 = .ok (.if_icmp .lt 8, 3) := by decide +kernel
theorem dX8_takeNumber_26 : decode cX8_takeNumber 26 = .ok (.iload_n 3, 1) := by decide +kernel
theorem dX8_takeNumber_27 : decode cX8_takeNumber 27 = .ok (.iload_n 2, 1) := by decide +kernel
theorem dX8_takeNumber_28 : decode cX8_takeNumber 28 = .ok (.if_icmp .le 11, 3) := by decide +kernel
theorem dX8_takeNumber_31 : decode cX8_takeNumber 31 = .ok (.aload_n 0, 1) := by decide +kernel
theorem dX8_takeNumber_32 : decode cX8_takeNumber 32 = .ok (.iconst 4, 1) := by decide +kernel
theorem dX8_takeNumber_33 : decode cX8_takeNumber 33 = .ok (.invokevirtual 77, 3) := by decide +kernel
theorem dX8_takeNumber_36 : decode cX8_takeNumber 36 = .ok (.goto 9, 3) := by decide +kernel
theorem dX8_takeNumber_39 : decode cX8_takeNumber 39 = .ok (.aload_n 0, 1) := by decide +kernel
theorem dX8_takeNumber_40 : decode cX8_takeNumber 40 = .ok (.invokevirtual 27, 3) := by decide +kernel
theorem dX8_takeNumber_43 : decode cX8_takeNumber 43 = .ok (.iload_n 3, 1) := by decide +kernel
theorem dX8_takeNumber_44 : decode cX8_takeNumber 44 = .ok (.ireturn, 1) := by decide +kernel
theorem dX8_takeNumber_45 : decode cX8_takeNumber 45 = .ok (.iconst 0, 1) := by decide +kernel
theorem dX8_takeNumber_46 : decode cX8_takeNumber 46 = .ok (.ireturn, 1) := by decide +kernel
theorem dX8_takeOneOf_0 : decode cX8_takeOneOf 0 = .ok (.aload_n 0, 1) := by decide +kernel
theorem dX8_takeOneOf_1 : decode cX8_takeOneOf 1 = .ok (.getfield 36, 3) := by decide +kernel
theorem dX8_takeOneOf_4 : decode cX8_takeOneOf 4 = .ok (.aload_n 1, 1) := by decide +kernel
theorem dX8_takeOneOf_5 : decode cX8_takeOneOf 5 = .ok (.if_acmp .ne 7, 3) := by decide +kernel
theorem dX8_takeOneOf_8 : decode cX8_takeOneOf 8 = .ok (.iconst 0, 1) := by decide +kernel
theorem dX8_takeOneOf_9 : decode cX8_takeOneOf 9 = .ok (.goto 16, 3) := by decide +kernel
theorem dX8_takeOneOf_12 : decode cX8_takeOneOf 12 = .ok (.aload_n 0, 1) := by decide +kernel
theorem dX8_takeOneOf_13 : decode cX8_takeOneOf 13 = .ok (.getfield 36, 3) := by decide +kernel
theorem dX8_takeOneOf_16 : decode cX8_takeOneOf 16 = .ok (.aload_n 2, 1) := by decide +kernel
theorem dX8_takeOneOf_17 : decode cX8_takeOneOf 17 = .ok (.if_acmp .ne 7, 3) := by decide +kernel
theorem dX8_takeOneOf_20 : decode cX8_takeOneOf 20 = .ok (.iconst 1, 1) := by decide +kernel
theorem dX8_takeOneOf_21 : decode cX8_takeOneOf 21 = .ok (.goto 4, 3) := by decide +kernel
theorem dX8_takeOneOf_24 : decode cX8_takeOneOf 24 = .ok (.iconst 2, 1) := by decide +kernel
theorem dX8_takeOneOf_25 : decode cX8_takeOneOf 25 = .ok (.istore 4, 2) := by decide +kernel
theorem dX8_takeOneOf_27 : decode cX8_takeOneOf 27 = .ok (.aload_n 0, 1) := by decide +kernel
theorem dX8_takeOneOf_28 : decode cX8_takeOneOf 28 = .ok (.iload 4, 2) := by decide +kernel
theorem dX8_takeOneOf_30 : decode cX8_takeOneOf 30 = .ok (.ifCond .ne 7, 3) := by decide +kernel
theorem dX8_takeOneOf_33 : decode cX8_takeOneOf 33 = .ok (.aload_n 1, 1) := by decide +kernel
theorem dX8_takeOneOf_34 : decode cX8_takeOneOf 34 = .ok (.goto 14, 3) := by decide +kernel
theorem dX8_takeOneOf_37 : decode cX8_takeOneOf 37 = .ok (.iload 4, 2) := by decide +kernel
theorem dX8_takeOneOf_39 : decode cX8_takeOneOf 39 = .ok (.iconst 1, 1) := by decide +kernel
theorem dX8_takeOneOf_40 : decode cX8_takeOneOf 40 = .ok (.if_icmp .ne 7, 3) := by decide +kernel
theorem dX8_takeOneOf_43 : decode cX8_takeOneOf 43 = .ok (.aload_n 2, 1) := by decide +kernel
theorem dX8_takeOneOf_44 : decode cX8_takeOneOf 44 = .ok (.goto 4, 3) := by decide +kernel
theorem dX8_takeOneOf_47 : decode cX8_takeOneOf 47 = .ok (.aload_n 3, 1) := by decide +kernel
theorem dX8_takeOneOf_48 : decode cX8_takeOneOf 48 = .ok (.invokevirtual 85, 3) := by decide +kernel
theorem dX8_takeOneOf_51 : decode cX8_takeOneOf 51 = .ok (.iload 4, 2) := by decide +kernel
theorem dX8_takeOneOf_53 : decode cX8_takeOneOf 53 = .ok (.ireturn, 1) := by decide +kernel
theorem dX8_takeKnown_0 : decode cX8_takeKnown 0 = .ok (.aload_n 0, 1) := by decide +kernel
theorem dX8_takeKnown_1 : decode cX8_takeKnown 1 = .ok (.invokevirtual 89, 3) := by decide +kernel
theorem dX8_takeKnown_4 : decode cX8_takeKnown 4 = .ok (.ifCond .ne 11, 3) := by decide +kernel
theorem dX8_takeKnown_7 : decode cX8_takeKnown 7 = .ok (.aload_n 0, 1) := by decide +kernel
theorem dX8_takeKnown_8 : decode cX8_takeKnown 8 = .ok (.iconst 1, 1) := by decide +kernel
theorem dX8_takeKnown_9 : decode cX8_takeKnown 9 = .ok (.invokevirtual 77, 3) := by decide +kernel
theorem dX8_takeKnown_12 : decode cX8_takeKnown 12 = .ok (.goto 21, 3) := by decide +kernel
theorem dX8_takeKnown_15 : decode cX8_takeKnown 15 = .ok (.iload_n 1, 1) := by decide +kernel
theorem dX8_takeKnown_16 : decode cX8_takeKnown 16 = .ok (.ifCond .ge 11, 3) := by decide +kernel
theorem dX8_takeKnown_19 : decode cX8_takeKnown 19 = .ok (.aload_n 0, 1) := by decide +kernel
theorem dX8_takeKnown_20 : decode cX8_takeKnown 20 = .ok (.iconst 2, 1) := by decide +kernel
theorem dX8_takeKnown_21 : decode cX8_takeKnown 21 = .ok (.invokevirtual 77, 3) := by decide +kernel
theorem dX8_takeKnown_24 : decode cX8_takeKnown 24 = .ok (.goto 9, 3) := by decide +kernel
theorem dX8_takeKnown_27 : decode cX8_takeKnown 27 = .ok (.aload_n 0, 1) := by decide +kernel
theorem dX8_takeKnown_28 : decode cX8_takeKnown 28 = .ok (.invokevirtual 27, 3) := by decide +kernel
theorem dX8_takeKnown_31 : decode cX8_takeKnown 31 = .ok (.iload_n 1, 1) := by decide +kernel
theorem dX8_takeKnown_32 : decode cX8_takeKnown 32 = .ok (.ireturn, 1) := by decide +kernel
theorem dX8_takeKnown_33 : decode cX8_takeKnown 33 = .ok (.iconst 0, 1) := by decide +kernel
theorem dX8_takeKnown_34 : decode cX8_takeKnown 34 = .ok (.ireturn, 1) := by decide +kernel
theorem dX9_init_0 : decode cX9_init 0 = .ok (.aload_n 0, 1) := by decide +kernel
theorem dX9_init_1 : decode cX9_init 1 = .ok (.invokespecial 1, 3) := by decide +kernel
theorem dX9_init_4 : decode cX9_init 4 = .ok (.return_, 1) := by decide +kernel
theorem dX11_init_0 : decode cX11_init 0 = .ok (.aload_n 0, 1) := by decide +kernel
theorem dX11_init_1 : decode cX11_init 1 = .ok (.invokespecial 1, 3) := by decide +kernel
theorem dX11_init_4 : decode cX11_init 4 = .ok (.aload_n 0, 1) := by decide +kernel
theorem dX11_init_5 : decode cX11_init 5 = .ok (.new 7, 3) := by decide +kernel
theorem dX11_init_8 : decode cX11_init 8 = .ok (.dup, 1) := by decide +kernel
theorem dX11_init_9 : decode cX11_init 9 = .ok (.invokespecial 9, 3) := by decide +kernel
theorem dX11_init_12 : decode cX11_init 12 = .ok (.putfield 10, 3) := by decide +kernel
theorem dX11_init_15 : decode cX11_init 15 = .ok (.aload_n 0, 1) := by decide +kernel
theorem dX11_init_16 : decode cX11_init 16 = .ok (.new 16, 3) := by decide +kernel
theorem dX11_init_19 : decode cX11_init 19 = .ok (.dup, 1) := by decide +kernel
theorem dX11_init_20 : decode cX11_init 20 = .ok (.invokespecial 18, 3) := by decide +kernel
theorem dX11_init_23 : decode cX11_init 23 = .ok (.putfield 19, 3) := by decide +kernel
theorem dX11_init_26 : decode cX11_init 26 = .ok (.aload_n 0, 1) := by decide +kernel
theorem dX11_init_27 : decode cX11_init 27 = .ok (.iconst 4, 1) := by decide +kernel
theorem dX11_init_28 : decode cX11_init 28 = .ok (.anewarray 16, 3) := by decide +kernel
theorem dX11_init_31 : decode cX11_init 31 = .ok (.putfield 23, 3) := by decide +kernel
theorem dX11_init_34 : decode cX11_init 34 = .ok (.aload_n 0, 1) := by decide +kernel
theorem dX11_init_35 : decode cX11_init 35 = .ok (.bipush 48, 2) := by decide +kernel
theorem dX11_init_37 : decode cX11_init 37 = .ok (.newarray .int, 2) := by decide +kernel
theorem dX11_init_39 : decode cX11_init 39 = .ok (.putfield 27, 3) := by decide +kernel
theorem dX11_init_42 : decode cX11_init 42 = .ok (.aload_n 0, 1) := by decide +kernel
theorem dX11_init_43 : decode cX11_init 43 = .ok (.sipush 384, 3) := by decide +kernel
theorem dX11_init_46 : decode cX11_init 46 = .ok (.newarray .int, 2) := by decide +kernel
theorem dX11_init_48 : decode cX11_init 48 = .ok (.putfield 31, 3) := by decide +kernel
theorem dX11_init_51 : decode cX11_init 51 = .ok (.new 34, 3) := by decide +kernel
theorem dX11_init_54 : decode cX11_init 54 = .ok (.dup, 1) := by decide +kernel
theorem dX11_init_55 : decode cX11_init 55 = .ok (.invokespecial 36, 3) := by decide +kernel
theorem dX11_init_58 : decode cX11_init 58 = .ok (.astore_n 1, 1) := by decide +kernel
theorem dX11_init_59 : decode cX11_init 59 = .ok (.new 7, 3) := by decide +kernel
theorem dX11_init_62 : decode cX11_init 62 = .ok (.dup, 1) := by decide +kernel
theorem dX11_init_63 : decode cX11_init 63 = .ok (.invokespecial 9, 3) := by decide +kernel
theorem dX11_init_66 : decode cX11_init 66 = .ok (.astore_n 2, 1) := by decide +kernel
theorem dX11_init_67 : decode cX11_init 67 = .ok (.new 16, 3) := by decide +kernel
theorem dX11_init_70 : decode cX11_init 70 = .ok (.dup, 1) := by decide +kernel
theorem dX11_init_71 : decode cX11_init 71 = .ok (.invokespecial 18, 3) := by decide +kernel
theorem dX11_init_74 : decode cX11_init 74 = .ok (.astore_n 3, 1) := by decide +kernel
theorem dX11_init_75 : decode cX11_init 75 = .ok (.aload_n 3, 1) := by decide +kernel
theorem dX11_init_76 : decode cX11_init 76 = .ok (.aload_n 2, 1) := by decide +kernel
theorem dX11_init_77 : decode cX11_init 77 = .ok (.invokevirtual 37, 3) := by decide +kernel
theorem dX11_init_80 : decode cX11_init 80 = .ok (.aload_n 0, 1) := by decide +kernel
theorem dX11_init_81 : decode cX11_init 81 = .ok (.aload_n 1, 1) := by decide +kernel
theorem dX11_init_82 : decode cX11_init 82 = .ok (.putfield 41, 3) := by decide +kernel
theorem dX11_init_85 : decode cX11_init 85 = .ok (.aload_n 0, 1) := by decide +kernel
theorem dX11_init_86 : decode cX11_init 86 = .ok (.new 45, 3) := by decide +kernel
theorem dX11_init_89 : decode cX11_init 89 = .ok (.dup, 1) := by decide +kernel
theorem dX11_init_90 : decode cX11_init 90 = .ok (.aload_n 1, 1) := by decide +kernel
theorem dX11_init_91 : decode cX11_init 91 = .ok (.invokespecial 47, 3) := by decide +kernel
theorem dX11_init_94 : decode cX11_init 94 = .ok (.putfield 50, 3) := by decide +kernel
theorem dX11_init_97 : decode cX11_init 97 = .ok (.aload_n 0, 1) := by decide +kernel
theorem dX11_init_98 : decode cX11_init 98 = .ok (.new 54, 3) := by decide +kernel
theorem dX11_init_101 : decode cX11_init 101 = .ok (.dup, 1) := by decide +kernel
theorem dX11_init_102 : decode cX11_init 102 = .ok (.aload_n 1, 1) := by decide +kernel
theorem dX11_init_103 : decode cX11_init 103 = .ok (.invokespecial 56, 3) := by decide +kernel
theorem dX11_init_106 : decode cX11_init 106 = .ok (.putfield 57, 3) := by decide +kernel
theorem dX11_init_109 : decode cX11_init 109 = .ok (.aload_n 0, 1) := by decide +kernel
theorem dX11_init_110 : decode cX11_init 110 = .ok (.aload_n 2, 1) := by decide +kernel
theorem dX11_init_111 : decode cX11_init 111 = .ok (.putfield 61, 3) := by decide +kernel
theorem dX11_init_114 : decode cX11_init 114 = .ok (.aload_n 0, 1) := by decide +kernel
theorem dX11_init_115 : decode cX11_init 115 = .ok (.aload_n 3, 1) := by decide +kernel
theorem dX11_init_116 : decode cX11_init 116 = .ok (.putfield 64, 3) := by decide +kernel
theorem dX11_init_119 : decode cX11_init 119 = .ok (.aload_n 0, 1) := by decide +kernel
theorem dX11_init_120 : decode cX11_init 120 = .ok (.new 67, 3) := by decide +kernel
theorem dX11_init_123 : decode cX11_init 123 = .ok (.dup, 1) := by decide +kernel
theorem dX11_init_124 : decode cX11_init 124 = .ok (.aload_n 2, 1) := by decide +kernel
theorem dX11_init_125 : decode cX11_init 125 = .ok (.aload_n 3, 1) := by decide +kernel
theorem dX11_init_126 : decode cX11_init 126 = .ok (.invokespecial 69, 3) := by decide +kernel
theorem dX11_init_129 : decode cX11_init 129 = .ok (.putfield 72, 3) := by decide +kernel
theorem dX11_init_132 : decode cX11_init 132 = .ok (.iconst 0, 1) := by decide +kernel
theorem dX11_init_133 : decode cX11_init 133 = .ok (.istore 4, 2) := by decide +kernel
theorem dX11_init_135 : decode cX11_init 135 = .ok (.iload 4, 2) := by decide +kernel
theorem dX11_init_137 : decode cX11_init 137 = .ok (.aload_n 0, 1) := by decide +kernel
theorem dX11_init_138 : decode cX11_init 138 = .ok (.getfield 23, 3) := by decide +kernel
theorem dX11_init_141 : decode cX11_init 141 = .ok (.arraylength, 1) := by decide +kernel
theorem dX11_init_142 : decode cX11_init 142 = .ok (.if_icmp .ge 23, 3) := by decide +kernel
theorem dX11_init_145 : decode cX11_init 145 = .ok (.aload_n 0, 1) := by decide +kernel
theorem dX11_init_146 : decode cX11_init 146 = .ok (.getfield 23, 3) := by decide +kernel
theorem dX11_init_149 : decode cX11_init 149 = .ok (.iload 4, 2) := by decide +kernel
theorem dX11_init_151 : decode cX11_init 151 = .ok (.new 16, 3) := by decide +kernel
theorem dX11_init_154 : decode cX11_init 154 = .ok (.dup, 1) := by decide +kernel
theorem dX11_init_155 : decode cX11_init 155 = .ok (.invokespecial 18, 3) := by decide +kernel
theorem dX11_init_158 : decode cX11_init 158 = .ok (.aastore, 1) := by decide +kernel
theorem dX11_init_159 : decode cX11_init 159 = .ok (.iinc 4 1, 3) := by decide +kernel
theorem dX11_init_162 : decode cX11_init 162 = .ok (.goto (-27), 3) := by decide +kernel
theorem dX11_init_165 : decode cX11_init 165 = .ok (.return_, 1) := by decide +kernel
theorem dX11_feed_0 : decode cX11_feed 0 = .ok (.aload_n 0, 1) := by decide +kernel
theorem dX11_feed_1 : decode cX11_feed 1 = .ok (.getfield 41, 3) := by decide +kernel
theorem dX11_feed_4 : decode cX11_feed 4 = .ok (.lload_n 1, 1) := by decide +kernel
theorem dX11_feed_5 : decode cX11_feed 5 = .ok (.invokevirtual 76, 3) := by decide +kernel
theorem dX11_feed_8 : decode cX11_feed 8 = .ok (.aload_n 0, 1) := by decide +kernel
theorem dX11_feed_9 : decode cX11_feed 9 = .ok (.getfield 41, 3) := by decide +kernel
theorem dX11_feed_12 : decode cX11_feed 12 = .ok (.lload_n 3, 1) := by decide +kernel
theorem dX11_feed_13 : decode cX11_feed 13 = .ok (.invokevirtual 76, 3) := by decide +kernel
theorem dX11_feed_16 : decode cX11_feed 16 = .ok (.aload_n 0, 1) := by decide +kernel
theorem dX11_feed_17 : decode cX11_feed 17 = .ok (.getfield 41, 3) := by decide +kernel
theorem dX11_feed_20 : decode cX11_feed 20 = .ok (.lload 5, 2) := by decide +kernel
theorem dX11_feed_22 : decode cX11_feed 22 = .ok (.invokevirtual 76, 3) := by decide +kernel
theorem dX11_feed_25 : decode cX11_feed 25 = .ok (.aload_n 0, 1) := by decide +kernel
theorem dX11_feed_26 : decode cX11_feed 26 = .ok (.getfield 41, 3) := by decide +kernel
theorem dX11_feed_29 : decode cX11_feed 29 = .ok (.getfield 80, 3) := by decide +kernel
theorem dX11_feed_32 : decode cX11_feed 32 = .ok (.ireturn, 1) := by decide +kernel
theorem dX11_junction_0 : decode cX11_junction 0 = .ok (.aload_n 0, 1) := by decide +kernel
theorem dX11_junction_1 : decode cX11_junction 1 = .ok (.getfield 50, 3) := by decide +kernel
theorem dX11_junction_4 : decode cX11_junction 4 = .ok (.aload_n 0, 1) := by decide +kernel
theorem dX11_junction_5 : decode cX11_junction 5 = .ok (.getfield 10, 3) := by decide +kernel
theorem dX11_junction_8 : decode cX11_junction 8 = .ok (.invokevirtual 84, 3) := by decide +kernel
theorem dX11_junction_11 : decode cX11_junction 11 = .ok (.istore_n 1, 1) := by decide +kernel
theorem dX11_junction_12 : decode cX11_junction 12 = .ok (.iload_n 1, 1) := by decide +kernel
theorem dX11_junction_13 : decode cX11_junction 13 = .ok (.ifCond .ne 71, 3) := by decide +kernel
theorem dX11_junction_16 : decode cX11_junction 16 = .ok (.aload_n 0, 1) := by decide +kernel
theorem dX11_junction_17 : decode cX11_junction 17 = .ok (.getfield 61, 3) := by decide +kernel
theorem dX11_junction_20 : decode cX11_junction 20 = .ok (.astore_n 2, 1) := by decide +kernel
theorem dX11_junction_21 : decode cX11_junction 21 = .ok (.aload_n 0, 1) := by decide +kernel
theorem dX11_junction_22 : decode cX11_junction 22 = .ok (.aload_n 0, 1) := by decide +kernel
theorem dX11_junction_23 : decode cX11_junction 23 = .ok (.getfield 10, 3) := by decide +kernel
theorem dX11_junction_26 : decode cX11_junction 26 = .ok (.putfield 61, 3) := by decide +kernel
theorem dX11_junction_29 : decode cX11_junction 29 = .ok (.aload_n 0, 1) := by decide +kernel
theorem dX11_junction_30 : decode cX11_junction 30 = .ok (.aload_n 2, 1) := by decide +kernel
theorem dX11_junction_31 : decode cX11_junction 31 = .ok (.putfield 10, 3) := by decide +kernel
theorem dX11_junction_34 : decode cX11_junction 34 = .ok (.aload_n 0, 1) := by decide +kernel
theorem dX11_junction_35 : decode cX11_junction 35 = .ok (.getfield 64, 3) := by decide +kernel
theorem dX11_junction_38 : decode cX11_junction 38 = .ok (.aload_n 0, 1) := by decide +kernel
theorem dX11_junction_39 : decode cX11_junction 39 = .ok (.getfield 61, 3) := by decide +kernel
theorem dX11_junction_42 : decode cX11_junction 42 = .ok (.invokevirtual 37, 3) := by decide +kernel
theorem dX11_junction_45 : decode cX11_junction 45 = .ok (.aload_n 0, 1) := by decide +kernel
theorem dX11_junction_46 : decode cX11_junction 46 = .ok (.getfield 64, 3) := by decide +kernel
theorem dX11_junction_49 : decode cX11_junction 49 = .ok (.invokevirtual 88, 3) := by decide +kernel
theorem dX11_junction_52 : decode cX11_junction 52 = .ok (.aload_n 0, 1) := by decide +kernel
theorem dX11_junction_53 : decode cX11_junction 53 = .ok (.iconst 0, 1) := by decide +kernel
theorem dX11_junction_54 : decode cX11_junction 54 = .ok (.putfield 91, 3) := by decide +kernel
theorem dX11_junction_57 : decode cX11_junction 57 = .ok (.iconst 0, 1) := by decide +kernel
theorem dX11_junction_58 : decode cX11_junction 58 = .ok (.istore_n 3, 1) := by decide +kernel
theorem dX11_junction_59 : decode cX11_junction 59 = .ok (.iload_n 3, 1) := by decide +kernel
theorem dX11_junction_60 : decode cX11_junction 60 = .ok (.aload_n 0, 1) := by decide +kernel
theorem dX11_junction_61 : decode cX11_junction 61 = .ok (.getfield 23, 3) := by decide +kernel
theorem dX11_junction_64 : decode cX11_junction 64 = .ok (.arraylength, 1) := by decide +kernel
theorem dX11_junction_65 : decode cX11_junction 65 = .ok (.if_icmp .ge 19, 3) := by decide +kernel
theorem dX11_junction_68 : decode cX11_junction 68 = .ok (.aload_n 0, 1) := by decide +kernel
theorem dX11_junction_69 : decode cX11_junction 69 = .ok (.getfield 23, 3) := by decide +kernel
theorem dX11_junction_72 : decode cX11_junction 72 = .ok (.iload_n 3, 1) := by decide +kernel
theorem dX11_junction_73 : decode cX11_junction 73 = .ok (.aaload, 1) := by decide +kernel
theorem dX11_junction_74 : decode cX11_junction 74 = .ok (.iconst 0, 1) := by decide +kernel
theorem dX11_junction_75 : decode cX11_junction 75 = .ok (.putfield 94, 3) := by decide +kernel
theorem dX11_junction_78 : decode cX11_junction 78 = .ok (.iinc 3 1, 3) := by decide +kernel
theorem dX11_junction_81 : decode cX11_junction 81 = .ok (.goto (-22), 3) := by decide +kernel
theorem dX11_junction_84 : decode cX11_junction 84 = .ok (.iload_n 1, 1) := by decide +kernel
theorem dX11_junction_85 : decode cX11_junction 85 = .ok (.ireturn, 1) := by decide +kernel
theorem dX11_days_0 : decode cX11_days 0 = .ok (.aload_n 0, 1) := by decide +kernel
theorem dX11_days_1 : decode cX11_days 1 = .ok (.getfield 57, 3) := by decide +kernel
theorem dX11_days_4 : decode cX11_days 4 = .ok (.aload_n 0, 1) := by decide +kernel
theorem dX11_days_5 : decode cX11_days 5 = .ok (.getfield 61, 3) := by decide +kernel
theorem dX11_days_8 : decode cX11_days 8 = .ok (.invokevirtual 98, 3) := by decide +kernel
theorem dX11_days_11 : decode cX11_days 11 = .ok (.istore_n 1, 1) := by decide +kernel
theorem dX11_days_12 : decode cX11_days 12 = .ok (.iload_n 1, 1) := by decide +kernel
theorem dX11_days_13 : decode cX11_days 13 = .ok (.ifCond .ne 24, 3) := by decide +kernel
theorem dX11_days_16 : decode cX11_days 16 = .ok (.aload_n 0, 1) := by decide +kernel
theorem dX11_days_17 : decode cX11_days 17 = .ok (.getfield 64, 3) := by decide +kernel
theorem dX11_days_20 : decode cX11_days 20 = .ok (.aload_n 0, 1) := by decide +kernel
theorem dX11_days_21 : decode cX11_days 21 = .ok (.getfield 57, 3) := by decide +kernel
theorem dX11_days_24 : decode cX11_days 24 = .ok (.getfield 99, 3) := by decide +kernel
theorem dX11_days_27 : decode cX11_days 27 = .ok (.aload_n 0, 1) := by decide +kernel
theorem dX11_days_28 : decode cX11_days 28 = .ok (.getfield 57, 3) := by decide +kernel
theorem dX11_days_31 : decode cX11_days 31 = .ok (.getfield 102, 3) := by decide +kernel
theorem dX11_days_34 : decode cX11_days 34 = .ok (.invokevirtual 105, 3) := by decide +kernel
theorem dX11_days_37 : decode cX11_days 37 = .ok (.iload_n 1, 1) := by decide +kernel
theorem dX11_days_38 : decode cX11_days 38 = .ok (.ireturn, 1) := by decide +kernel
theorem dX11_thing_0 : decode cX11_thing 0 = .ok (.aload_n 0, 1) := by decide +kernel
theorem dX11_thing_1 : decode cX11_thing 1 = .ok (.iload_n 1, 1) := by decide +kernel
theorem dX11_thing_2 : decode cX11_thing 2 = .ok (.invokevirtual 109, 3) := by decide +kernel
theorem dX11_thing_5 : decode cX11_thing 5 = .ok (.ifCond .ne 5, 3) := by decide +kernel
theorem dX11_thing_8 : decode cX11_thing 8 = .ok (.iconst (-1), 1) := by decide +kernel
theorem dX11_thing_9 : decode cX11_thing 9 = .ok (.ireturn, 1) := by decide +kernel
theorem dX11_thing_10 : decode cX11_thing 10 = .ok (.aload_n 0, 1) := by decide +kernel
theorem dX11_thing_11 : decode cX11_thing 11 = .ok (.getfield 61, 3) := by decide +kernel
theorem dX11_thing_14 : decode cX11_thing 14 = .ok (.getfield 113, 3) := by decide +kernel
theorem dX11_thing_17 : decode cX11_thing 17 = .ok (.iload_n 1, 1) := by decide +kernel
theorem dX11_thing_18 : decode cX11_thing 18 = .ok (.aaload, 1) := by decide +kernel
theorem dX11_thing_19 : decode cX11_thing 19 = .ok (.astore_n 3, 1) := by decide +kernel
theorem dX11_thing_20 : decode cX11_thing 20 = .ok (.iload_n 2, 1) := by decide +kernel
theorem dX11_thing_21 : decode cX11_thing 21 = .ok (.tableswitch 65 0 4 #[35, 40, 45, 50, 60], 35) := by decide +kernel
theorem dX11_thing_56 : decode cX11_thing 56 = .ok (.aload_n 3, 1) := by decide +kernel
theorem dX11_thing_57 : decode cX11_thing 57 = .ok (.getfield 117, 3) := by decide +kernel
theorem dX11_thing_60 : decode cX11_thing 60 = .ok (.ireturn, 1) := by decide +kernel
theorem dX11_thing_61 : decode cX11_thing 61 = .ok (.aload_n 3, 1) := by decide +kernel
theorem dX11_thing_62 : decode cX11_thing 62 = .ok (.getfield 122, 3) := by decide +kernel
theorem dX11_thing_65 : decode cX11_thing 65 = .ok (.ireturn, 1) := by decide +kernel
theorem dX11_thing_66 : decode cX11_thing 66 = .ok (.aload_n 3, 1) := by decide +kernel
theorem dX11_thing_67 : decode cX11_thing 67 = .ok (.getfield 125, 3) := by decide +kernel
theorem dX11_thing_70 : decode cX11_thing 70 = .ok (.ireturn, 1) := by decide +kernel
theorem dX11_thing_71 : decode cX11_thing 71 = .ok (.aload_n 0, 1) := by decide +kernel
theorem dX11_thing_72 : decode cX11_thing 72 = .ok (.getfield 64, 3) := by decide +kernel
theorem dX11_thing_75 : decode cX11_thing 75 = .ok (.getfield 128, 3) := by decide +kernel
theorem dX11_thing_78 : decode cX11_thing 78 = .ok (.iload_n 1, 1) := by decide +kernel
theorem dX11_thing_79 : decode cX11_thing 79 = .ok (.iaload, 1) := by decide +kernel
theorem dX11_thing_80 : decode cX11_thing 80 = .ok (.ireturn, 1) := by decide +kernel
theorem dX11_thing_81 : decode cX11_thing 81 = .ok (.aload_n 3, 1) := by decide +kernel
theorem dX11_thing_82 : decode cX11_thing 82 = .ok (.getfield 131, 3) := by decide +kernel
theorem dX11_thing_85 : decode cX11_thing 85 = .ok (.ireturn, 1) := by decide +kernel
theorem dX11_thing_86 : decode cX11_thing 86 = .ok (.iconst (-1), 1) := by decide +kernel
theorem dX11_thing_87 : decode cX11_thing 87 = .ok (.ireturn, 1) := by decide +kernel
theorem dX11_buyer_0 : decode cX11_buyer 0 = .ok (.aload_n 0, 1) := by decide +kernel
theorem dX11_buyer_1 : decode cX11_buyer 1 = .ok (.iload_n 1, 1) := by decide +kernel
theorem dX11_buyer_2 : decode cX11_buyer 2 = .ok (.invokevirtual 134, 3) := by decide +kernel
theorem dX11_buyer_5 : decode cX11_buyer 5 = .ok (.ifCond .ne 5, 3) := by decide +kernel
theorem dX11_buyer_8 : decode cX11_buyer 8 = .ok (.iconst (-1), 1) := by decide +kernel
theorem dX11_buyer_9 : decode cX11_buyer 9 = .ok (.ireturn, 1) := by decide +kernel
theorem dX11_buyer_10 : decode cX11_buyer 10 = .ok (.aload_n 0, 1) := by decide +kernel
theorem dX11_buyer_11 : decode cX11_buyer 11 = .ok (.getfield 61, 3) := by decide +kernel
theorem dX11_buyer_14 : decode cX11_buyer 14 = .ok (.getfield 137, 3) := by decide +kernel
theorem dX11_buyer_17 : decode cX11_buyer 17 = .ok (.iload_n 1, 1) := by decide +kernel
theorem dX11_buyer_18 : decode cX11_buyer 18 = .ok (.aaload, 1) := by decide +kernel
theorem dX11_buyer_19 : decode cX11_buyer 19 = .ok (.astore_n 3, 1) := by decide +kernel
theorem dX11_buyer_20 : decode cX11_buyer 20 = .ok (.iload_n 2, 1) := by decide +kernel
theorem dX11_buyer_21 : decode cX11_buyer 21 = .ok (.tableswitch 130 0 7 #[47, 52, 57, 62, 67, 72, 84, 100], 47) := by decide +kernel
theorem dX11_buyer_68 : decode cX11_buyer 68 = .ok (.aload_n 3, 1) := by decide +kernel
theorem dX11_buyer_69 : decode cX11_buyer 69 = .ok (.getfield 141, 3) := by decide +kernel
theorem dX11_buyer_72 : decode cX11_buyer 72 = .ok (.ireturn, 1) := by decide +kernel
theorem dX11_buyer_73 : decode cX11_buyer 73 = .ok (.aload_n 3, 1) := by decide +kernel
theorem dX11_buyer_74 : decode cX11_buyer 74 = .ok (.getfield 146, 3) := by decide +kernel
theorem dX11_buyer_77 : decode cX11_buyer 77 = .ok (.ireturn, 1) := by decide +kernel
theorem dX11_buyer_78 : decode cX11_buyer 78 = .ok (.aload_n 3, 1) := by decide +kernel
theorem dX11_buyer_79 : decode cX11_buyer 79 = .ok (.getfield 149, 3) := by decide +kernel
theorem dX11_buyer_82 : decode cX11_buyer 82 = .ok (.ireturn, 1) := by decide +kernel
theorem dX11_buyer_83 : decode cX11_buyer 83 = .ok (.aload_n 3, 1) := by decide +kernel
theorem dX11_buyer_84 : decode cX11_buyer 84 = .ok (.getfield 152, 3) := by decide +kernel
theorem dX11_buyer_87 : decode cX11_buyer 87 = .ok (.ireturn, 1) := by decide +kernel
theorem dX11_buyer_88 : decode cX11_buyer 88 = .ok (.aload_n 3, 1) := by decide +kernel
theorem dX11_buyer_89 : decode cX11_buyer 89 = .ok (.getfield 155, 3) := by decide +kernel
theorem dX11_buyer_92 : decode cX11_buyer 92 = .ok (.ireturn, 1) := by decide +kernel
theorem dX11_buyer_93 : decode cX11_buyer 93 = .ok (.aload_n 0, 1) := by decide +kernel
theorem dX11_buyer_94 : decode cX11_buyer 94 = .ok (.getfield 64, 3) := by decide +kernel
theorem dX11_buyer_97 : decode cX11_buyer 97 = .ok (.getfield 158, 3) := by decide +kernel
theorem dX11_buyer_100 : decode cX11_buyer 100 = .ok (.iload_n 1, 1) := by decide +kernel
theorem dX11_buyer_101 : decode cX11_buyer 101 = .ok (.ishr, 1) := by decide +kernel
theorem dX11_buyer_102 : decode cX11_buyer 102 = .ok (.iconst 1, 1) := by decide +kernel
theorem dX11_buyer_103 : decode cX11_buyer 103 = .ok (.iand, 1) := by decide +kernel
theorem dX11_buyer_104 : decode cX11_buyer 104 = .ok (.ireturn, 1) := by decide +kernel
theorem dX11_buyer_105 : decode cX11_buyer 105 = .ok (.aload_n 0, 1) := by decide +kernel
theorem dX11_buyer_106 : decode cX11_buyer 106 = .ok (.getfield 61, 3) := by decide +kernel
theorem dX11_buyer_109 : decode cX11_buyer 109 = .ok (.iload_n 1, 1) := by decide +kernel
theorem dX11_buyer_110 : decode cX11_buyer 110 = .ok (.aload_n 0, 1) := by decide +kernel
theorem dX11_buyer_111 : decode cX11_buyer 111 = .ok (.getfield 64, 3) := by decide +kernel
theorem dX11_buyer_114 : decode cX11_buyer 114 = .ok (.getfield 161, 3) := by decide +kernel
theorem dX11_buyer_117 : decode cX11_buyer 117 = .ok (.invokevirtual 164, 3) := by decide +kernel
theorem dX11_buyer_120 : decode cX11_buyer 120 = .ok (.ireturn, 1) := by decide +kernel
theorem dX11_buyer_121 : decode cX11_buyer 121 = .ok (.aload_n 0, 1) := by decide +kernel
theorem dX11_buyer_122 : decode cX11_buyer 122 = .ok (.getfield 61, 3) := by decide +kernel
theorem dX11_buyer_125 : decode cX11_buyer 125 = .ok (.aload_n 0, 1) := by decide +kernel
theorem dX11_buyer_126 : decode cX11_buyer 126 = .ok (.getfield 61, 3) := by decide +kernel
theorem dX11_buyer_129 : decode cX11_buyer 129 = .ok (.iload_n 1, 1) := by decide +kernel
theorem dX11_buyer_130 : decode cX11_buyer 130 = .ok (.aload_n 0, 1) := by decide +kernel
theorem dX11_buyer_131 : decode cX11_buyer 131 = .ok (.getfield 64, 3) := by decide +kernel
theorem dX11_buyer_134 : decode cX11_buyer 134 = .ok (.getfield 161, 3) := by decide +kernel
theorem dX11_buyer_137 : decode cX11_buyer 137 = .ok (.invokevirtual 164, 3) := by decide +kernel
theorem dX11_buyer_140 : decode cX11_buyer 140 = .ok (.aload_n 0, 1) := by decide +kernel
theorem dX11_buyer_141 : decode cX11_buyer 141 = .ok (.getfield 64, 3) := by decide +kernel
theorem dX11_buyer_144 : decode cX11_buyer 144 = .ok (.getfield 168, 3) := by decide +kernel
theorem dX11_buyer_147 : decode cX11_buyer 147 = .ok (.invokevirtual 171, 3) := by decide +kernel
theorem dX11_buyer_150 : decode cX11_buyer 150 = .ok (.ireturn, 1) := by decide +kernel
theorem dX11_buyer_151 : decode cX11_buyer 151 = .ok (.iconst (-1), 1) := by decide +kernel
theorem dX11_buyer_152 : decode cX11_buyer 152 = .ok (.ireturn, 1) := by decide +kernel
theorem dX11_out_0 : decode cX11_out 0 = .ok (.aload_n 0, 1) := by decide +kernel
theorem dX11_out_1 : decode cX11_out 1 = .ok (.iconst 3, 1) := by decide +kernel
theorem dX11_out_2 : decode cX11_out 2 = .ok (.iload_n 1, 1) := by decide +kernel
theorem dX11_out_3 : decode cX11_out 3 = .ok (.iload_n 2, 1) := by decide +kernel
theorem dX11_out_4 : decode cX11_out 4 = .ok (.ifCond .eq 7, 3) := by decide +kernel
theorem dX11_out_7 : decode cX11_out 7 = .ok (.iconst 1, 1) := by decide +kernel
theorem dX11_out_8 : decode cX11_out 8 = .ok (.goto 4, 3) := by decide +kernel
theorem dX11_out_11 : decode cX11_out 11 = .ok (.iconst 0, 1) := by decide +kernel
theorem dX11_out_12 : decode cX11_out 12 = .ok (.invokevirtual 174, 3) := by decide +kernel
theorem dX11_out_15 : decode cX11_out 15 = .ok (.ireturn, 1) := by decide +kernel
theorem dX11_set_0 : decode cX11_set 0 = .ok (.iload_n 1, 1) := by decide +kernel
theorem dX11_set_1 : decode cX11_set 1 = .ok (.ifCond .lt 22, 3) := by decide +kernel
theorem dX11_set_4 : decode cX11_set 4 = .ok (.iload_n 1, 1) := by decide +kernel
theorem dX11_set_5 : decode cX11_set 5 = .ok (.iconst 2, 1) := by decide +kernel
theorem dX11_set_6 : decode cX11_set 6 = .ok (.if_icmp .gt 17, 3) := by decide +kernel
theorem dX11_set_9 : decode cX11_set 9 = .ok (.aload_n 0, 1) := by decide +kernel
theorem dX11_set_10 : decode cX11_set 10 = .ok (.iload_n 1, 1) := by decide +kernel
theorem dX11_set_11 : decode cX11_set 11 = .ok (.iconst 0, 1) := by decide +kernel
theorem dX11_set_12 : decode cX11_set 12 = .ok (.iload_n 2, 1) := by decide +kernel
theorem dX11_set_13 : decode cX11_set 13 = .ok (.invokevirtual 174, 3) := by decide +kernel
theorem dX11_set_16 : decode cX11_set 16 = .ok (.ifCond .eq 7, 3) := by decide +kernel
theorem dX11_set_19 : decode cX11_set 19 = .ok (.iconst 1, 1) := by decide +kernel
theorem dX11_set_20 : decode cX11_set 20 = .ok (.goto 4, 3) := by decide +kernel
theorem dX11_set_23 : decode cX11_set 23 = .ok (.iconst 0, 1) := by decide +kernel
theorem dX11_set_24 : decode cX11_set 24 = .ok (.ireturn, 1) := by decide +kernel
theorem dX11_heats_0 : decode cX11_heats 0 = .ok (.aload_n 0, 1) := by decide +kernel
theorem dX11_heats_1 : decode cX11_heats 1 = .ok (.iconst 4, 1) := by decide +kernel
theorem dX11_heats_2 : decode cX11_heats 2 = .ok (.iload_n 1, 1) := by decide +kernel
theorem dX11_heats_3 : decode cX11_heats 3 = .ok (.iload_n 2, 1) := by decide +kernel
theorem dX11_heats_4 : decode cX11_heats 4 = .ok (.invokevirtual 174, 3) := by decide +kernel
theorem dX11_heats_7 : decode cX11_heats 7 = .ok (.ireturn, 1) := by decide +kernel
theorem dX11_undo_0 : decode cX11_undo 0 = .ok (.aload_n 0, 1) := by decide +kernel
theorem dX11_undo_1 : decode cX11_undo 1 = .ok (.getfield 91, 3) := by decide +kernel
theorem dX11_undo_4 : decode cX11_undo 4 = .ok (.ifCond .gt 5, 3) := by decide +kernel
theorem dX11_undo_7 : decode cX11_undo 7 = .ok (.iconst 0, 1) := by decide +kernel
theorem dX11_undo_8 : decode cX11_undo 8 = .ok (.ireturn, 1) := by decide +kernel
theorem dX11_undo_9 : decode cX11_undo 9 = .ok (.aload_n 0, 1) := by decide +kernel
theorem dX11_undo_10 : decode cX11_undo 10 = .ok (.dup, 1) := by decide +kernel
theorem dX11_undo_11 : decode cX11_undo 11 = .ok (.getfield 91, 3) := by decide +kernel
theorem dX11_undo_14 : decode cX11_undo 14 = .ok (.iconst 1, 1) := by decide +kernel
theorem dX11_undo_15 : decode cX11_undo 15 = .ok (.isub, 1) := by decide +kernel
theorem dX11_undo_16 : decode cX11_undo 16 = .ok (.putfield 91, 3) := by decide +kernel
theorem dX11_undo_19 : decode cX11_undo 19 = .ok (.aload_n 0, 1) := by decide +kernel
theorem dX11_undo_20 : decode cX11_undo 20 = .ok (.getfield 91, 3) := by decide +kernel
theorem dX11_undo_23 : decode cX11_undo 23 = .ok (.iconst 3, 1) := by decide +kernel
theorem dX11_undo_24 : decode cX11_undo 24 = .ok (.imul, 1) := by decide +kernel
theorem dX11_undo_25 : decode cX11_undo 25 = .ok (.istore_n 1, 1) := by decide +kernel
theorem dX11_undo_26 : decode cX11_undo 26 = .ok (.aload_n 0, 1) := by decide +kernel
theorem dX11_undo_27 : decode cX11_undo 27 = .ok (.getfield 64, 3) := by decide +kernel
theorem dX11_undo_30 : decode cX11_undo 30 = .ok (.aload_n 0, 1) := by decide +kernel
theorem dX11_undo_31 : decode cX11_undo 31 = .ok (.getfield 61, 3) := by decide +kernel
theorem dX11_undo_34 : decode cX11_undo 34 = .ok (.aload_n 0, 1) := by decide +kernel
theorem dX11_undo_35 : decode cX11_undo 35 = .ok (.getfield 27, 3) := by decide +kernel
theorem dX11_undo_38 : decode cX11_undo 38 = .ok (.iload_n 1, 1) := by decide +kernel
theorem dX11_undo_39 : decode cX11_undo 39 = .ok (.iaload, 1) := by decide +kernel
theorem dX11_undo_40 : decode cX11_undo 40 = .ok (.aload_n 0, 1) := by decide +kernel
theorem dX11_undo_41 : decode cX11_undo 41 = .ok (.getfield 27, 3) := by decide +kernel
theorem dX11_undo_44 : decode cX11_undo 44 = .ok (.iload_n 1, 1) := by decide +kernel
theorem dX11_undo_45 : decode cX11_undo 45 = .ok (.iconst 1, 1) := by decide +kernel
theorem dX11_undo_46 : decode cX11_undo 46 = .ok (.iadd, 1) := by decide +kernel
theorem dX11_undo_47 : decode cX11_undo 47 = .ok (.iaload, 1) := by decide +kernel
theorem dX11_undo_48 : decode cX11_undo 48 = .ok (.aload_n 0, 1) := by decide +kernel
theorem dX11_undo_49 : decode cX11_undo 49 = .ok (.getfield 27, 3) := by decide +kernel
theorem dX11_undo_52 : decode cX11_undo 52 = .ok (.iload_n 1, 1) := by decide +kernel
theorem dX11_undo_53 : decode cX11_undo 53 = .ok (.iconst 2, 1) := by decide +kernel
theorem dX11_undo_54 : decode cX11_undo 54 = .ok (.iadd, 1) := by decide +kernel
theorem dX11_undo_55 : decode cX11_undo 55 = .ok (.iaload, 1) := by decide +kernel
theorem dX11_undo_56 : decode cX11_undo 56 = .ok (.invokevirtual 178, 3) := by decide +kernel
theorem dX11_undo_59 : decode cX11_undo 59 = .ok (.pop, 1) := by decide +kernel
theorem dX11_undo_60 : decode cX11_undo 60 = .ok (.iconst 1, 1) := by decide +kernel
theorem dX11_undo_61 : decode cX11_undo 61 = .ok (.ireturn, 1) := by decide +kernel
theorem dX11_judged_0 : decode cX11_judged 0 = .ok (.iload_n 1, 1) := by decide +kernel
theorem dX11_judged_1 : decode cX11_judged 1 = .ok (.ifCond .lt 8, 3) := by decide +kernel
theorem dX11_judged_4 : decode cX11_judged 4 = .ok (.iload_n 1, 1) := by decide +kernel
theorem dX11_judged_5 : decode cX11_judged 5 = .ok (.iconst 2, 1) := by decide +kernel
theorem dX11_judged_6 : decode cX11_judged 6 = .ok (.if_icmp .le 6, 3) := by decide +kernel
theorem dX11_judged_9 : decode cX11_judged 9 = .ok (.bipush (-2), 2) := by decide +kernel
theorem dX11_judged_11 : decode cX11_judged 11 = .ok (.ireturn, 1) := by decide +kernel
theorem dX11_judged_12 : decode cX11_judged 12 = .ok (.aload_n 0, 1) := by decide +kernel
theorem dX11_judged_13 : decode cX11_judged 13 = .ok (.getfield 19, 3) := by decide +kernel
theorem dX11_judged_16 : decode cX11_judged 16 = .ok (.aload_n 0, 1) := by decide +kernel
theorem dX11_judged_17 : decode cX11_judged 17 = .ok (.getfield 61, 3) := by decide +kernel
theorem dX11_judged_20 : decode cX11_judged 20 = .ok (.invokevirtual 37, 3) := by decide +kernel
theorem dX11_judged_23 : decode cX11_judged 23 = .ok (.iconst (-1), 1) := by decide +kernel
theorem dX11_judged_24 : decode cX11_judged 24 = .ok (.istore_n 2, 1) := by decide +kernel
theorem dX11_judged_25 : decode cX11_judged 25 = .ok (.iconst 0, 1) := by decide +kernel
theorem dX11_judged_26 : decode cX11_judged 26 = .ok (.istore_n 3, 1) := by decide +kernel
theorem dX11_judged_27 : decode cX11_judged 27 = .ok (.iconst 0, 1) := by decide +kernel
theorem dX11_judged_28 : decode cX11_judged 28 = .ok (.istore 4, 2) := by decide +kernel
theorem dX11_judged_30 : decode cX11_judged 30 = .ok (.iconst 0, 1) := by decide +kernel
theorem dX11_judged_31 : decode cX11_judged 31 = .ok (.istore 5, 2) := by decide +kernel
theorem dX11_judged_33 : decode cX11_judged 33 = .ok (.iload 5, 2) := by decide +kernel
theorem dX11_judged_35 : decode cX11_judged 35 = .ok (.aload_n 0, 1) := by decide +kernel
theorem dX11_judged_36 : decode cX11_judged 36 = .ok (.getfield 64, 3) := by decide +kernel
theorem dX11_judged_39 : decode cX11_judged 39 = .ok (.getfield 182, 3) := by decide +kernel
theorem dX11_judged_42 : decode cX11_judged 42 = .ok (.if_icmp .ge 135, 3) := by decide +kernel
theorem dX11_judged_45 : decode cX11_judged 45 = .ok (.iload 5, 2) := by decide +kernel
theorem dX11_judged_47 : decode cX11_judged 47 = .ok (.iconst 3, 1) := by decide +kernel
theorem dX11_judged_48 : decode cX11_judged 48 = .ok (.imul, 1) := by decide +kernel
theorem dX11_judged_49 : decode cX11_judged 49 = .ok (.istore 6, 2) := by decide +kernel
theorem dX11_judged_51 : decode cX11_judged 51 = .ok (.aload_n 0, 1) := by decide +kernel
theorem dX11_judged_52 : decode cX11_judged 52 = .ok (.getfield 64, 3) := by decide +kernel
theorem dX11_judged_55 : decode cX11_judged 55 = .ok (.getfield 183, 3) := by decide +kernel
theorem dX11_judged_58 : decode cX11_judged 58 = .ok (.iload 6, 2) := by decide +kernel
theorem dX11_judged_60 : decode cX11_judged 60 = .ok (.iaload, 1) := by decide +kernel
theorem dX11_judged_61 : decode cX11_judged 61 = .ok (.iconst 5, 1) := by decide +kernel
theorem dX11_judged_62 : decode cX11_judged 62 = .ok (.if_icmp .ne 49, 3) := by decide +kernel
theorem dX11_judged_65 : decode cX11_judged 65 = .ok (.aload_n 0, 1) := by decide +kernel
theorem dX11_judged_66 : decode cX11_judged 66 = .ok (.invokevirtual 184, 3) := by decide +kernel
theorem dX11_judged_69 : decode cX11_judged 69 = .ok (.iload_n 3, 1) := by decide +kernel
theorem dX11_judged_70 : decode cX11_judged 70 = .ok (.aload_n 0, 1) := by decide +kernel
theorem dX11_judged_71 : decode cX11_judged 71 = .ok (.getfield 72, 3) := by decide +kernel
theorem dX11_judged_74 : decode cX11_judged 74 = .ok (.invokevirtual 187, 3) := by decide +kernel
theorem dX11_judged_77 : decode cX11_judged 77 = .ok (.iadd, 1) := by decide +kernel
theorem dX11_judged_78 : decode cX11_judged 78 = .ok (.istore_n 3, 1) := by decide +kernel
theorem dX11_judged_79 : decode cX11_judged 79 = .ok (.iload 4, 2) := by decide +kernel
theorem dX11_judged_81 : decode cX11_judged 81 = .ok (.aload_n 0, 1) := by decide +kernel
theorem dX11_judged_82 : decode cX11_judged 82 = .ok (.getfield 72, 3) := by decide +kernel
theorem dX11_judged_85 : decode cX11_judged 85 = .ok (.invokevirtual 191, 3) := by decide +kernel
theorem dX11_judged_88 : decode cX11_judged 88 = .ok (.iadd, 1) := by decide +kernel
theorem dX11_judged_89 : decode cX11_judged 89 = .ok (.istore 4, 2) := by decide +kernel
theorem dX11_judged_91 : decode cX11_judged 91 = .ok (.aload_n 0, 1) := by decide +kernel
theorem dX11_judged_92 : decode cX11_judged 92 = .ok (.getfield 72, 3) := by decide +kernel
theorem dX11_judged_95 : decode cX11_judged 95 = .ok (.invokevirtual 191, 3) := by decide +kernel
theorem dX11_judged_98 : decode cX11_judged 98 = .ok (.ifCond .le 7, 3) := by decide +kernel
theorem dX11_judged_101 : decode cX11_judged 101 = .ok (.iconst 1, 1) := by decide +kernel
theorem dX11_judged_102 : decode cX11_judged 102 = .ok (.goto 4, 3) := by decide +kernel
theorem dX11_judged_105 : decode cX11_judged 105 = .ok (.iconst 0, 1) := by decide +kernel
theorem dX11_judged_106 : decode cX11_judged 106 = .ok (.istore 7, 2) := by decide +kernel
theorem dX11_judged_108 : decode cX11_judged 108 = .ok (.goto 50, 3) := by decide +kernel
theorem dX11_judged_111 : decode cX11_judged 111 = .ok (.aload_n 0, 1) := by decide +kernel
theorem dX11_judged_112 : decode cX11_judged 112 = .ok (.getfield 19, 3) := by decide +kernel
theorem dX11_judged_115 : decode cX11_judged 115 = .ok (.aload_n 0, 1) := by decide +kernel
theorem dX11_judged_116 : decode cX11_judged 116 = .ok (.getfield 61, 3) := by decide +kernel
theorem dX11_judged_119 : decode cX11_judged 119 = .ok (.aload_n 0, 1) := by decide +kernel
theorem dX11_judged_120 : decode cX11_judged 120 = .ok (.getfield 64, 3) := by decide +kernel
theorem dX11_judged_123 : decode cX11_judged 123 = .ok (.getfield 183, 3) := by decide +kernel
theorem dX11_judged_126 : decode cX11_judged 126 = .ok (.iload 6, 2) := by decide +kernel
theorem dX11_judged_128 : decode cX11_judged 128 = .ok (.iaload, 1) := by decide +kernel
theorem dX11_judged_129 : decode cX11_judged 129 = .ok (.aload_n 0, 1) := by decide +kernel
theorem dX11_judged_130 : decode cX11_judged 130 = .ok (.getfield 64, 3) := by decide +kernel
theorem dX11_judged_133 : decode cX11_judged 133 = .ok (.getfield 183, 3) := by decide +kernel
theorem dX11_judged_136 : decode cX11_judged 136 = .ok (.iload 6, 2) := by decide +kernel
theorem dX11_judged_138 : decode cX11_judged 138 = .ok (.iconst 1, 1) := by decide +kernel
theorem dX11_judged_139 : decode cX11_judged 139 = .ok (.iadd, 1) := by decide +kernel
theorem dX11_judged_140 : decode cX11_judged 140 = .ok (.iaload, 1) := by decide +kernel
theorem dX11_judged_141 : decode cX11_judged 141 = .ok (.aload_n 0, 1) := by decide +kernel
theorem dX11_judged_142 : decode cX11_judged 142 = .ok (.getfield 64, 3) := by decide +kernel
theorem dX11_judged_145 : decode cX11_judged 145 = .ok (.getfield 183, 3) := by decide +kernel
theorem dX11_judged_148 : decode cX11_judged 148 = .ok (.iload 6, 2) := by decide +kernel
theorem dX11_judged_150 : decode cX11_judged 150 = .ok (.iconst 2, 1) := by decide +kernel
theorem dX11_judged_151 : decode cX11_judged 151 = .ok (.iadd, 1) := by decide +kernel
theorem dX11_judged_152 : decode cX11_judged 152 = .ok (.iaload, 1) := by decide +kernel
theorem dX11_judged_153 : decode cX11_judged 153 = .ok (.invokevirtual 178, 3) := by decide +kernel
theorem dX11_judged_156 : decode cX11_judged 156 = .ok (.istore 7, 2) := by decide +kernel
theorem dX11_judged_158 : decode cX11_judged 158 = .ok (.iload 7, 2) := by decide +kernel
theorem dX11_judged_160 : decode cX11_judged 160 = .ok (.ifCond .ne 11, 3) := by decide +kernel
theorem dX11_judged_163 : decode cX11_judged 163 = .ok (.iload_n 2, 1) := by decide +kernel
theorem dX11_judged_164 : decode cX11_judged 164 = .ok (.iconst (-1), 1) := by decide +kernel
theorem dX11_judged_165 : decode cX11_judged 165 = .ok (.if_icmp .ne 6, 3) := by decide +kernel
theorem dX11_judged_168 : decode cX11_judged 168 = .ok (.iload 5, 2) := by decide +kernel
theorem dX11_judged_170 : decode cX11_judged 170 = .ok (.istore_n 2, 1) := by decide +kernel
theorem dX11_judged_171 : decode cX11_judged 171 = .ok (.iinc 5 1, 3) := by decide +kernel
theorem dX11_judged_174 : decode cX11_judged 174 = .ok (.goto (-141), 3) := by decide +kernel
theorem dX11_judged_177 : decode cX11_judged 177 = .ok (.iload_n 1, 1) := by decide +kernel
theorem dX11_judged_178 : decode cX11_judged 178 = .ok (.ifCond .ne 7, 3) := by decide +kernel
theorem dX11_judged_181 : decode cX11_judged 181 = .ok (.iload_n 2, 1) := by decide +kernel
theorem dX11_judged_182 : decode cX11_judged 182 = .ok (.goto 14, 3) := by decide +kernel
theorem dX11_judged_185 : decode cX11_judged 185 = .ok (.iload_n 1, 1) := by decide +kernel
theorem dX11_judged_186 : decode cX11_judged 186 = .ok (.iconst 1, 1) := by decide +kernel
theorem dX11_judged_187 : decode cX11_judged 187 = .ok (.if_icmp .ne 7, 3) := by decide +kernel
theorem dX11_judged_190 : decode cX11_judged 190 = .ok (.iload_n 3, 1) := by decide +kernel
theorem dX11_judged_191 : decode cX11_judged 191 = .ok (.goto 5, 3) := by decide +kernel
theorem dX11_judged_194 : decode cX11_judged 194 = .ok (.iload 4, 2) := by decide +kernel
theorem dX11_judged_196 : decode cX11_judged 196 = .ok (.ireturn, 1) := by decide +kernel
theorem dX11_served_0 : decode cX11_served 0 = .ok (.aload_n 0, 1) := by decide +kernel
theorem dX11_served_1 : decode cX11_served 1 = .ok (.iload_n 1, 1) := by decide +kernel
theorem dX11_served_2 : decode cX11_served 2 = .ok (.invokevirtual 134, 3) := by decide +kernel
theorem dX11_served_5 : decode cX11_served 5 = .ok (.ifCond .eq 17, 3) := by decide +kernel
theorem dX11_served_8 : decode cX11_served 8 = .ok (.aload_n 0, 1) := by decide +kernel
theorem dX11_served_9 : decode cX11_served 9 = .ok (.getfield 64, 3) := by decide +kernel
theorem dX11_served_12 : decode cX11_served 12 = .ok (.getfield 158, 3) := by decide +kernel
theorem dX11_served_15 : decode cX11_served 15 = .ok (.iload_n 1, 1) := by decide +kernel
theorem dX11_served_16 : decode cX11_served 16 = .ok (.ishr, 1) := by decide +kernel
theorem dX11_served_17 : decode cX11_served 17 = .ok (.iconst 1, 1) := by decide +kernel
theorem dX11_served_18 : decode cX11_served 18 = .ok (.iand, 1) := by decide +kernel
theorem dX11_served_19 : decode cX11_served 19 = .ok (.ifCond .ne 6, 3) := by decide +kernel
theorem dX11_served_22 : decode cX11_served 22 = .ok (.bipush (-2), 2) := by decide +kernel
theorem dX11_served_24 : decode cX11_served 24 = .ok (.ireturn, 1) := by decide +kernel
theorem dX11_served_25 : decode cX11_served 25 = .ok (.aload_n 0, 1) := by decide +kernel
theorem dX11_served_26 : decode cX11_served 26 = .ok (.invokevirtual 194, 3) := by decide +kernel
theorem dX11_served_29 : decode cX11_served 29 = .ok (.iload_n 2, 1) := by decide +kernel
theorem dX11_served_30 : decode cX11_served 30 = .ok (.tableswitch 86 0 4 #[34, 44, 54, 64, 74], 34) := by decide +kernel
theorem dX11_served_64 : decode cX11_served 64 = .ok (.aload_n 0, 1) := by decide +kernel
theorem dX11_served_65 : decode cX11_served 65 = .ok (.getfield 72, 3) := by decide +kernel
theorem dX11_served_68 : decode cX11_served 68 = .ok (.getfield 197, 3) := by decide +kernel
theorem dX11_served_71 : decode cX11_served 71 = .ok (.iload_n 1, 1) := by decide +kernel
theorem dX11_served_72 : decode cX11_served 72 = .ok (.iaload, 1) := by decide +kernel
theorem dX11_served_73 : decode cX11_served 73 = .ok (.ireturn, 1) := by decide +kernel
theorem dX11_served_74 : decode cX11_served 74 = .ok (.aload_n 0, 1) := by decide +kernel
theorem dX11_served_75 : decode cX11_served 75 = .ok (.getfield 72, 3) := by decide +kernel
theorem dX11_served_78 : decode cX11_served 78 = .ok (.getfield 200, 3) := by decide +kernel
theorem dX11_served_81 : decode cX11_served 81 = .ok (.iload_n 1, 1) := by decide +kernel
theorem dX11_served_82 : decode cX11_served 82 = .ok (.iaload, 1) := by decide +kernel
theorem dX11_served_83 : decode cX11_served 83 = .ok (.ireturn, 1) := by decide +kernel
theorem dX11_served_84 : decode cX11_served 84 = .ok (.aload_n 0, 1) := by decide +kernel
theorem dX11_served_85 : decode cX11_served 85 = .ok (.getfield 72, 3) := by decide +kernel
theorem dX11_served_88 : decode cX11_served 88 = .ok (.getfield 203, 3) := by decide +kernel
theorem dX11_served_91 : decode cX11_served 91 = .ok (.iload_n 1, 1) := by decide +kernel
theorem dX11_served_92 : decode cX11_served 92 = .ok (.iaload, 1) := by decide +kernel
theorem dX11_served_93 : decode cX11_served 93 = .ok (.ireturn, 1) := by decide +kernel
theorem dX11_served_94 : decode cX11_served 94 = .ok (.aload_n 0, 1) := by decide +kernel
theorem dX11_served_95 : decode cX11_served 95 = .ok (.getfield 72, 3) := by decide +kernel
theorem dX11_served_98 : decode cX11_served 98 = .ok (.getfield 206, 3) := by decide +kernel
theorem dX11_served_101 : decode cX11_served 101 = .ok (.iload_n 1, 1) := by decide +kernel
theorem dX11_served_102 : decode cX11_served 102 = .ok (.iaload, 1) := by decide +kernel
theorem dX11_served_103 : decode cX11_served 103 = .ok (.ireturn, 1) := by decide +kernel
theorem dX11_served_104 : decode cX11_served 104 = .ok (.aload_n 0, 1) := by decide +kernel
theorem dX11_served_105 : decode cX11_served 105 = .ok (.getfield 72, 3) := by decide +kernel
theorem dX11_served_108 : decode cX11_served 108 = .ok (.getfield 209, 3) := by decide +kernel
theorem dX11_served_111 : decode cX11_served 111 = .ok (.iload_n 1, 1) := by decide +kernel
theorem dX11_served_112 : decode cX11_served 112 = .ok (.ishr, 1) := by decide +kernel
theorem dX11_served_113 : decode cX11_served 113 = .ok (.iconst 1, 1) := by decide +kernel
theorem dX11_served_114 : decode cX11_served 114 = .ok (.iand, 1) := by decide +kernel
theorem dX11_served_115 : decode cX11_served 115 = .ok (.ireturn, 1) := by decide +kernel
theorem dX11_served_116 : decode cX11_served 116 = .ok (.bipush (-2), 2) := by decide +kernel
theorem dX11_served_118 : decode cX11_served 118 = .ok (.ireturn, 1) := by decide +kernel
theorem dX11_round_0 : decode cX11_round 0 = .ok (.aload_n 0, 1) := by decide +kernel
theorem dX11_round_1 : decode cX11_round 1 = .ok (.invokevirtual 194, 3) := by decide +kernel
theorem dX11_round_4 : decode cX11_round 4 = .ok (.iload_n 1, 1) := by decide +kernel
theorem dX11_round_5 : decode cX11_round 5 = .ok (.tableswitch 80 0 4 #[35, 43, 51, 59, 70], 35) := by decide +kernel
theorem dX11_round_40 : decode cX11_round 40 = .ok (.aload_n 0, 1) := by decide +kernel
theorem dX11_round_41 : decode cX11_round 41 = .ok (.getfield 72, 3) := by decide +kernel
theorem dX11_round_44 : decode cX11_round 44 = .ok (.invokevirtual 187, 3) := by decide +kernel
theorem dX11_round_47 : decode cX11_round 47 = .ok (.ireturn, 1) := by decide +kernel
theorem dX11_round_48 : decode cX11_round 48 = .ok (.aload_n 0, 1) := by decide +kernel
theorem dX11_round_49 : decode cX11_round 49 = .ok (.getfield 72, 3) := by decide +kernel
theorem dX11_round_52 : decode cX11_round 52 = .ok (.invokevirtual 191, 3) := by decide +kernel
theorem dX11_round_55 : decode cX11_round 55 = .ok (.ireturn, 1) := by decide +kernel
theorem dX11_round_56 : decode cX11_round 56 = .ok (.aload_n 0, 1) := by decide +kernel
theorem dX11_round_57 : decode cX11_round 57 = .ok (.getfield 72, 3) := by decide +kernel
theorem dX11_round_60 : decode cX11_round 60 = .ok (.invokevirtual 212, 3) := by decide +kernel
theorem dX11_round_63 : decode cX11_round 63 = .ok (.ireturn, 1) := by decide +kernel
theorem dX11_round_64 : decode cX11_round 64 = .ok (.aload_n 0, 1) := by decide +kernel
theorem dX11_round_65 : decode cX11_round 65 = .ok (.getfield 72, 3) := by decide +kernel
theorem dX11_round_68 : decode cX11_round 68 = .ok (.getfield 209, 3) := by decide +kernel
theorem dX11_round_71 : decode cX11_round 71 = .ok (.invokestatic 215, 3) := by decide +kernel
theorem dX11_round_74 : decode cX11_round 74 = .ok (.ireturn, 1) := by decide +kernel
theorem dX11_round_75 : decode cX11_round 75 = .ok (.aload_n 0, 1) := by decide +kernel
theorem dX11_round_76 : decode cX11_round 76 = .ok (.getfield 72, 3) := by decide +kernel
theorem dX11_round_79 : decode cX11_round 79 = .ok (.ldc 221, 2) := by decide +kernel
theorem dX11_round_81 : decode cX11_round 81 = .ok (.invokevirtual 222, 3) := by decide +kernel
theorem dX11_round_84 : decode cX11_round 84 = .ok (.ireturn, 1) := by decide +kernel
theorem dX11_round_85 : decode cX11_round 85 = .ok (.iconst (-1), 1) := by decide +kernel
theorem dX11_round_86 : decode cX11_round 86 = .ok (.ireturn, 1) := by decide +kernel
theorem dX11_chance_0 : decode cX11_chance 0 = .ok (.aload_n 0, 1) := by decide +kernel
theorem dX11_chance_1 : decode cX11_chance 1 = .ok (.iload_n 1, 1) := by decide +kernel
theorem dX11_chance_2 : decode cX11_chance 2 = .ok (.invokevirtual 134, 3) := by decide +kernel
theorem dX11_chance_5 : decode cX11_chance 5 = .ok (.ifCond .ne 5, 3) := by decide +kernel
theorem dX11_chance_8 : decode cX11_chance 8 = .ok (.iconst (-1), 1) := by decide +kernel
theorem dX11_chance_9 : decode cX11_chance 9 = .ok (.ireturn, 1) := by decide +kernel
theorem dX11_chance_10 : decode cX11_chance 10 = .ok (.aload_n 0, 1) := by decide +kernel
theorem dX11_chance_11 : decode cX11_chance 11 = .ok (.getfield 19, 3) := by decide +kernel
theorem dX11_chance_14 : decode cX11_chance 14 = .ok (.aload_n 0, 1) := by decide +kernel
theorem dX11_chance_15 : decode cX11_chance 15 = .ok (.getfield 64, 3) := by decide +kernel
theorem dX11_chance_18 : decode cX11_chance 18 = .ok (.invokevirtual 225, 3) := by decide +kernel
theorem dX11_chance_21 : decode cX11_chance 21 = .ok (.iconst 1, 1) := by decide +kernel
theorem dX11_chance_22 : decode cX11_chance 22 = .ok (.iload_n 1, 1) := by decide +kernel
theorem dX11_chance_23 : decode cX11_chance 23 = .ok (.ishl, 1) := by decide +kernel
theorem dX11_chance_24 : decode cX11_chance 24 = .ok (.istore_n 2, 1) := by decide +kernel
theorem dX11_chance_25 : decode cX11_chance 25 = .ok (.lconst 0, 1) := by decide +kernel
theorem dX11_chance_26 : decode cX11_chance 26 = .ok (.lstore_n 3, 1) := by decide +kernel
theorem dX11_chance_27 : decode cX11_chance 27 = .ok (.lconst 0, 1) := by decide +kernel
theorem dX11_chance_28 : decode cX11_chance 28 = .ok (.lstore 5, 2) := by decide +kernel
theorem dX11_chance_30 : decode cX11_chance 30 = .ok (.iconst 0, 1) := by decide +kernel
theorem dX11_chance_31 : decode cX11_chance 31 = .ok (.istore 7, 2) := by decide +kernel
theorem dX11_chance_33 : decode cX11_chance 33 = .ok (.iload 7, 2) := by decide +kernel
theorem dX11_chance_35 : decode cX11_chance 35 = .ok (.iconst 1, 1) := by decide +kernel
theorem dX11_chance_36 : decode cX11_chance 36 = .ok (.aload_n 0, 1) := by decide +kernel
theorem dX11_chance_37 : decode cX11_chance 37 = .ok (.getfield 61, 3) := by decide +kernel
theorem dX11_chance_40 : decode cX11_chance 40 = .ok (.getfield 229, 3) := by decide +kernel
theorem dX11_chance_43 : decode cX11_chance 43 = .ok (.ishl, 1) := by decide +kernel
theorem dX11_chance_44 : decode cX11_chance 44 = .ok (.if_icmp .ge 99, 3) := by decide +kernel
theorem dX11_chance_47 : decode cX11_chance 47 = .ok (.iload 7, 2) := by decide +kernel
theorem dX11_chance_49 : decode cX11_chance 49 = .ok (.iload_n 2, 1) := by decide +kernel
theorem dX11_chance_50 : decode cX11_chance 50 = .ok (.iand, 1) := by decide +kernel
theorem dX11_chance_51 : decode cX11_chance 51 = .ok (.ifCond .ne 13, 3) := by decide +kernel
theorem dX11_chance_54 : decode cX11_chance 54 = .ok (.aload_n 0, 1) := by decide +kernel
theorem dX11_chance_55 : decode cX11_chance 55 = .ok (.iload 7, 2) := by decide +kernel
theorem dX11_chance_57 : decode cX11_chance 57 = .ok (.iload_n 1, 1) := by decide +kernel
theorem dX11_chance_58 : decode cX11_chance 58 = .ok (.invokevirtual 232, 3) := by decide +kernel
theorem dX11_chance_61 : decode cX11_chance 61 = .ok (.goto 4, 3) := by decide +kernel
theorem dX11_chance_64 : decode cX11_chance 64 = .ok (.lconst 0, 1) := by decide +kernel
theorem dX11_chance_65 : decode cX11_chance 65 = .ok (.lstore 8, 2) := by decide +kernel
theorem dX11_chance_67 : decode cX11_chance 67 = .ok (.lload 5, 2) := by decide +kernel
theorem dX11_chance_69 : decode cX11_chance 69 = .ok (.lload 8, 2) := by decide +kernel
theorem dX11_chance_71 : decode cX11_chance 71 = .ok (.ladd, 1) := by decide +kernel
theorem dX11_chance_72 : decode cX11_chance 72 = .ok (.lstore 5, 2) := by decide +kernel
theorem dX11_chance_74 : decode cX11_chance 74 = .ok (.lload 8, 2) := by decide +kernel
theorem dX11_chance_76 : decode cX11_chance 76 = .ok (.lconst 0, 1) := by decide +kernel
theorem dX11_chance_77 : decode cX11_chance 77 = .ok (.lcmp, 1) := by decide +kernel
theorem dX11_chance_78 : decode cX11_chance 78 = .ok (.ifCond .le 59, 3) := by decide +kernel
theorem dX11_chance_81 : decode cX11_chance 81 = .ok (.aload_n 0, 1) := by decide +kernel
theorem dX11_chance_82 : decode cX11_chance 82 = .ok (.getfield 19, 3) := by decide +kernel
theorem dX11_chance_85 : decode cX11_chance 85 = .ok (.iload 7, 2) := by decide +kernel
theorem dX11_chance_87 : decode cX11_chance 87 = .ok (.iload_n 2, 1) := by decide +kernel
theorem dX11_chance_88 : decode cX11_chance 88 = .ok (.ior, 1) := by decide +kernel
theorem dX11_chance_89 : decode cX11_chance 89 = .ok (.putfield 158, 3) := by decide +kernel
theorem dX11_chance_92 : decode cX11_chance 92 = .ok (.aload_n 0, 1) := by decide +kernel
theorem dX11_chance_93 : decode cX11_chance 93 = .ok (.invokevirtual 184, 3) := by decide +kernel
theorem dX11_chance_96 : decode cX11_chance 96 = .ok (.aload_n 0, 1) := by decide +kernel
theorem dX11_chance_97 : decode cX11_chance 97 = .ok (.getfield 72, 3) := by decide +kernel
theorem dX11_chance_100 : decode cX11_chance 100 = .ok (.getfield 203, 3) := by decide +kernel
theorem dX11_chance_103 : decode cX11_chance 103 = .ok (.iload_n 1, 1) := by decide +kernel
theorem dX11_chance_104 : decode cX11_chance 104 = .ok (.iaload, 1) := by decide +kernel
theorem dX11_chance_105 : decode cX11_chance 105 = .ok (.aload_n 0, 1) := by decide +kernel
theorem dX11_chance_106 : decode cX11_chance 106 = .ok (.getfield 61, 3) := by decide +kernel
theorem dX11_chance_109 : decode cX11_chance 109 = .ok (.getfield 137, 3) := by decide +kernel
theorem dX11_chance_112 : decode cX11_chance 112 = .ok (.iload_n 1, 1) := by decide +kernel
theorem dX11_chance_113 : decode cX11_chance 113 = .ok (.aaload, 1) := by decide +kernel
theorem dX11_chance_114 : decode cX11_chance 114 = .ok (.getfield 155, 3) := by decide +kernel
theorem dX11_chance_117 : decode cX11_chance 117 = .ok (.if_icmp .ne 20, 3) := by decide +kernel
theorem dX11_chance_120 : decode cX11_chance 120 = .ok (.aload_n 0, 1) := by decide +kernel
theorem dX11_chance_121 : decode cX11_chance 121 = .ok (.getfield 72, 3) := by decide +kernel
theorem dX11_chance_124 : decode cX11_chance 124 = .ok (.getfield 209, 3) := by decide +kernel
theorem dX11_chance_127 : decode cX11_chance 127 = .ok (.iload_n 2, 1) := by decide +kernel
theorem dX11_chance_128 : decode cX11_chance 128 = .ok (.iand, 1) := by decide +kernel
theorem dX11_chance_129 : decode cX11_chance 129 = .ok (.ifCond .ne 8, 3) := by decide +kernel
theorem dX11_chance_132 : decode cX11_chance 132 = .ok (.lload_n 3, 1) := by decide +kernel
theorem dX11_chance_133 : decode cX11_chance 133 = .ok (.lload 8, 2) := by decide +kernel
theorem dX11_chance_135 : decode cX11_chance 135 = .ok (.ladd, 1) := by decide +kernel
theorem dX11_chance_136 : decode cX11_chance 136 = .ok (.lstore_n 3, 1) := by decide +kernel
theorem dX11_chance_137 : decode cX11_chance 137 = .ok (.iinc 7 1, 3) := by decide +kernel
theorem dX11_chance_140 : decode cX11_chance 140 = .ok (.goto (-107), 3) := by decide +kernel
theorem dX11_chance_143 : decode cX11_chance 143 = .ok (.lload 5, 2) := by decide +kernel
theorem dX11_chance_145 : decode cX11_chance 145 = .ok (.lconst 0, 1) := by decide +kernel
theorem dX11_chance_146 : decode cX11_chance 146 = .ok (.lcmp, 1) := by decide +kernel
theorem dX11_chance_147 : decode cX11_chance 147 = .ok (.ifCond .le 15, 3) := by decide +kernel
theorem dX11_chance_150 : decode cX11_chance 150 = .ok (.lload_n 3, 1) := by decide +kernel
theorem dX11_chance_151 : decode cX11_chance 151 = .ok (.ldc2_w 236, 3) := by decide +kernel
theorem dX11_chance_154 : decode cX11_chance 154 = .ok (.lmul, 1) := by decide +kernel
theorem dX11_chance_155 : decode cX11_chance 155 = .ok (.lload 5, 2) := by decide +kernel
theorem dX11_chance_157 : decode cX11_chance 157 = .ok (.ldiv, 1) := by decide +kernel
theorem dX11_chance_158 : decode cX11_chance 158 = .ok (.l2i, 1) := by decide +kernel
theorem dX11_chance_159 : decode cX11_chance 159 = .ok (.goto 4, 3) := by decide +kernel
theorem dX11_chance_162 : decode cX11_chance 162 = .ok (.iconst 0, 1) := by decide +kernel
theorem dX11_chance_163 : decode cX11_chance 163 = .ok (.ireturn, 1) := by decide +kernel
theorem dX11_rests_0 : decode cX11_rests 0 = .ok (.aload_n 0, 1) := by decide +kernel
theorem dX11_rests_1 : decode cX11_rests 1 = .ok (.iload_n 1, 1) := by decide +kernel
theorem dX11_rests_2 : decode cX11_rests 2 = .ok (.invokevirtual 238, 3) := by decide +kernel
theorem dX11_rests_5 : decode cX11_rests 5 = .ok (.ifCond .eq 16, 3) := by decide +kernel
theorem dX11_rests_8 : decode cX11_rests 8 = .ok (.iload_n 1, 1) := by decide +kernel
theorem dX11_rests_9 : decode cX11_rests 9 = .ok (.invokestatic 215, 3) := by decide +kernel
theorem dX11_rests_12 : decode cX11_rests 12 = .ok (.iconst 4, 1) := by decide +kernel
theorem dX11_rests_13 : decode cX11_rests 13 = .ok (.if_icmp .gt 8, 3) := by decide +kernel
theorem dX11_rests_16 : decode cX11_rests 16 = .ok (.iload_n 2, 1) := by decide +kernel
theorem dX11_rests_17 : decode cX11_rests 17 = .ok (.iconst (-1), 1) := by decide +kernel
theorem dX11_rests_18 : decode cX11_rests 18 = .ok (.if_icmp .ge 11, 3) := by decide +kernel
theorem dX11_rests_21 : decode cX11_rests 21 = .ok (.new 241, 3) := by decide +kernel
theorem dX11_rests_24 : decode cX11_rests 24 = .ok (.dup, 1) := by decide +kernel
theorem dX11_rests_25 : decode cX11_rests 25 = .ok (.invokespecial 243, 3) := by decide +kernel
theorem dX11_rests_28 : decode cX11_rests 28 = .ok (.athrow, 1) := by decide +kernel
theorem dX11_rests_29 : decode cX11_rests 29 = .ok (.aload_n 0, 1) := by decide +kernel
theorem dX11_rests_30 : decode cX11_rests 30 = .ok (.iload_n 1, 1) := by decide +kernel
theorem dX11_rests_31 : decode cX11_rests 31 = .ok (.invokevirtual 244, 3) := by decide +kernel
theorem dX11_rests_34 : decode cX11_rests 34 = .ok (.iconst 0, 1) := by decide +kernel
theorem dX11_rests_35 : decode cX11_rests 35 = .ok (.istore_n 3, 1) := by decide +kernel
theorem dX11_rests_36 : decode cX11_rests 36 = .ok (.iconst 0, 1) := by decide +kernel
theorem dX11_rests_37 : decode cX11_rests 37 = .ok (.istore 4, 2) := by decide +kernel
theorem dX11_rests_39 : decode cX11_rests 39 = .ok (.iload 4, 2) := by decide +kernel
theorem dX11_rests_41 : decode cX11_rests 41 = .ok (.iload_n 1, 1) := by decide +kernel
theorem dX11_rests_42 : decode cX11_rests 42 = .ok (.if_icmp .gt 39, 3) := by decide +kernel
theorem dX11_rests_45 : decode cX11_rests 45 = .ok (.iload 4, 2) := by decide +kernel
theorem dX11_rests_47 : decode cX11_rests 47 = .ok (.iload_n 1, 1) := by decide +kernel
theorem dX11_rests_48 : decode cX11_rests 48 = .ok (.iconst (-1), 1) := by decide +kernel
theorem dX11_rests_49 : decode cX11_rests 49 = .ok (.ixor, 1) := by decide +kernel
theorem dX11_rests_50 : decode cX11_rests 50 = .ok (.iand, 1) := by decide +kernel
theorem dX11_rests_51 : decode cX11_rests 51 = .ok (.ifCond .ne 24, 3) := by decide +kernel
theorem dX11_rests_54 : decode cX11_rests 54 = .ok (.aload_n 0, 1) := by decide +kernel
theorem dX11_rests_55 : decode cX11_rests 55 = .ok (.iload_n 1, 1) := by decide +kernel
theorem dX11_rests_56 : decode cX11_rests 56 = .ok (.iload 4, 2) := by decide +kernel
theorem dX11_rests_58 : decode cX11_rests 58 = .ok (.invokevirtual 248, 3) := by decide +kernel
theorem dX11_rests_61 : decode cX11_rests 61 = .ok (.ifCond .eq 14, 3) := by decide +kernel
theorem dX11_rests_64 : decode cX11_rests 64 = .ok (.iload_n 3, 1) := by decide +kernel
theorem dX11_rests_65 : decode cX11_rests 65 = .ok (.iload_n 2, 1) := by decide +kernel
theorem dX11_rests_66 : decode cX11_rests 66 = .ok (.if_icmp .ne 6, 3) := by decide +kernel
theorem dX11_rests_69 : decode cX11_rests 69 = .ok (.iload 4, 2) := by decide +kernel
theorem dX11_rests_71 : decode cX11_rests 71 = .ok (.ireturn, 1) := by decide +kernel
theorem dX11_rests_72 : decode cX11_rests 72 = .ok (.iinc 3 1, 3) := by decide +kernel
theorem dX11_rests_75 : decode cX11_rests 75 = .ok (.iinc 4 1, 3) := by decide +kernel
theorem dX11_rests_78 : decode cX11_rests 78 = .ok (.goto (-39), 3) := by decide +kernel
theorem dX11_rests_81 : decode cX11_rests 81 = .ok (.iload_n 2, 1) := by decide +kernel
theorem dX11_rests_82 : decode cX11_rests 82 = .ok (.iconst (-1), 1) := by decide +kernel
theorem dX11_rests_83 : decode cX11_rests 83 = .ok (.if_icmp .eq 11, 3) := by decide +kernel
theorem dX11_rests_86 : decode cX11_rests 86 = .ok (.new 241, 3) := by decide +kernel
theorem dX11_rests_89 : decode cX11_rests 89 = .ok (.dup, 1) := by decide +kernel
theorem dX11_rests_90 : decode cX11_rests 90 = .ok (.invokespecial 243, 3) := by decide +kernel
theorem dX11_rests_93 : decode cX11_rests 93 = .ok (.athrow, 1) := by decide +kernel
theorem dX11_rests_94 : decode cX11_rests 94 = .ok (.iload_n 3, 1) := by decide +kernel
theorem dX11_rests_95 : decode cX11_rests 95 = .ok (.ireturn, 1) := by decide +kernel
theorem dX11_errand_0 : decode cX11_errand 0 = .ok (.aload_n 0, 1) := by decide +kernel
theorem dX11_errand_1 : decode cX11_errand 1 = .ok (.iload_n 1, 1) := by decide +kernel
theorem dX11_errand_2 : decode cX11_errand 2 = .ok (.invokevirtual 238, 3) := by decide +kernel
theorem dX11_errand_5 : decode cX11_errand 5 = .ok (.ifCond .eq 12, 3) := by decide +kernel
theorem dX11_errand_8 : decode cX11_errand 8 = .ok (.iload_n 2, 1) := by decide +kernel
theorem dX11_errand_9 : decode cX11_errand 9 = .ok (.ifCond .lt 8, 3) := by decide +kernel
theorem dX11_errand_12 : decode cX11_errand 12 = .ok (.iload_n 2, 1) := by decide +kernel
theorem dX11_errand_13 : decode cX11_errand 13 = .ok (.iconst 2, 1) := by decide +kernel
theorem dX11_errand_14 : decode cX11_errand 14 = .ok (.if_icmp .le 5, 3) := by decide +kernel
theorem dX11_errand_17 : decode cX11_errand 17 = .ok (.iconst (-1), 1) := by decide +kernel
theorem dX11_errand_18 : decode cX11_errand 18 = .ok (.ireturn, 1) := by decide +kernel
theorem dX11_errand_19 : decode cX11_errand 19 = .ok (.iconst 0, 1) := by decide +kernel
theorem dX11_errand_20 : decode cX11_errand 20 = .ok (.istore_n 3, 1) := by decide +kernel
theorem dX11_errand_21 : decode cX11_errand 21 = .ok (.iconst (-1), 1) := by decide +kernel
theorem dX11_errand_22 : decode cX11_errand 22 = .ok (.istore 4, 2) := by decide +kernel
theorem dX11_errand_24 : decode cX11_errand 24 = .ok (.iconst (-1), 1) := by decide +kernel
theorem dX11_errand_25 : decode cX11_errand 25 = .ok (.istore 5, 2) := by decide +kernel
theorem dX11_errand_27 : decode cX11_errand 27 = .ok (.iconst 0, 1) := by decide +kernel
theorem dX11_errand_28 : decode cX11_errand 28 = .ok (.istore 6, 2) := by decide +kernel
theorem dX11_errand_30 : decode cX11_errand 30 = .ok (.iload 6, 2) := by decide +kernel
theorem dX11_errand_32 : decode cX11_errand 32 = .ok (.aload_n 0, 1) := by decide +kernel
theorem dX11_errand_33 : decode cX11_errand 33 = .ok (.getfield 61, 3) := by decide +kernel
theorem dX11_errand_36 : decode cX11_errand 36 = .ok (.getfield 229, 3) := by decide +kernel
theorem dX11_errand_39 : decode cX11_errand 39 = .ok (.if_icmp .ge 65, 3) := by decide +kernel
theorem dX11_errand_42 : decode cX11_errand 42 = .ok (.iload_n 1, 1) := by decide +kernel
theorem dX11_errand_43 : decode cX11_errand 43 = .ok (.iload 6, 2) := by decide +kernel
theorem dX11_errand_45 : decode cX11_errand 45 = .ok (.ishr, 1) := by decide +kernel
theorem dX11_errand_46 : decode cX11_errand 46 = .ok (.iconst 1, 1) := by decide +kernel
theorem dX11_errand_47 : decode cX11_errand 47 = .ok (.iand, 1) := by decide +kernel
theorem dX11_errand_48 : decode cX11_errand 48 = .ok (.ifCond .eq 13, 3) := by decide +kernel
theorem dX11_errand_51 : decode cX11_errand 51 = .ok (.aload_n 0, 1) := by decide +kernel
theorem dX11_errand_52 : decode cX11_errand 52 = .ok (.iload_n 1, 1) := by decide +kernel
theorem dX11_errand_53 : decode cX11_errand 53 = .ok (.iload 6, 2) := by decide +kernel
theorem dX11_errand_55 : decode cX11_errand 55 = .ok (.invokevirtual 252, 3) := by decide +kernel
theorem dX11_errand_58 : decode cX11_errand 58 = .ok (.goto 4, 3) := by decide +kernel
theorem dX11_errand_61 : decode cX11_errand 61 = .ok (.iconst (-1), 1) := by decide +kernel
theorem dX11_errand_62 : decode cX11_errand 62 = .ok (.istore 7, 2) := by decide +kernel
theorem dX11_errand_64 : decode cX11_errand 64 = .ok (.iload 7, 2) := by decide +kernel
theorem dX11_errand_66 : decode cX11_errand 66 = .ok (.iconst (-1), 1) := by decide +kernel
theorem dX11_errand_67 : decode cX11_errand 67 = .ok (.if_icmp .eq 31, 3) := by decide +kernel
theorem dX11_errand_70 : decode cX11_errand 70 = .ok (.iload_n 3, 1) := by decide +kernel
theorem dX11_errand_71 : decode cX11_errand 71 = .ok (.iconst 1, 1) := by decide +kernel
theorem dX11_errand_72 : decode cX11_errand 72 = .ok (.iload 6, 2) := by decide +kernel
theorem dX11_errand_74 : decode cX11_errand 74 = .ok (.ishl, 1) := by decide +kernel
theorem dX11_errand_75 : decode cX11_errand 75 = .ok (.ior, 1) := by decide +kernel
theorem dX11_errand_76 : decode cX11_errand 76 = .ok (.istore_n 3, 1) := by decide +kernel
theorem dX11_errand_77 : decode cX11_errand 77 = .ok (.iload 4, 2) := by decide +kernel
theorem dX11_errand_79 : decode cX11_errand 79 = .ok (.iconst (-1), 1) := by decide +kernel
theorem dX11_errand_80 : decode cX11_errand 80 = .ok (.if_icmp .eq 10, 3) := by decide +kernel
theorem dX11_errand_83 : decode cX11_errand 83 = .ok (.iload 7, 2) := by decide +kernel
theorem dX11_errand_85 : decode cX11_errand 85 = .ok (.iload 5, 2) := by decide +kernel
theorem dX11_errand_87 : decode cX11_errand 87 = .ok (.if_icmp .ge 11, 3) := by decide +kernel
theorem dX11_errand_90 : decode cX11_errand 90 = .ok (.iload 6, 2) := by decide +kernel
theorem dX11_errand_92 : decode cX11_errand 92 = .ok (.istore 4, 2) := by decide +kernel
theorem dX11_errand_94 : decode cX11_errand 94 = .ok (.iload 7, 2) := by decide +kernel
theorem dX11_errand_96 : decode cX11_errand 96 = .ok (.istore 5, 2) := by decide +kernel
theorem dX11_errand_98 : decode cX11_errand 98 = .ok (.iinc 6 1, 3) := by decide +kernel
theorem dX11_errand_101 : decode cX11_errand 101 = .ok (.goto (-71), 3) := by decide +kernel
theorem dX11_errand_104 : decode cX11_errand 104 = .ok (.iload_n 2, 1) := by decide +kernel
theorem dX11_errand_105 : decode cX11_errand 105 = .ok (.ifCond .ne 7, 3) := by decide +kernel
theorem dX11_errand_108 : decode cX11_errand 108 = .ok (.iload_n 3, 1) := by decide +kernel
theorem dX11_errand_109 : decode cX11_errand 109 = .ok (.goto 15, 3) := by decide +kernel
theorem dX11_errand_112 : decode cX11_errand 112 = .ok (.iload_n 2, 1) := by decide +kernel
theorem dX11_errand_113 : decode cX11_errand 113 = .ok (.iconst 1, 1) := by decide +kernel
theorem dX11_errand_114 : decode cX11_errand 114 = .ok (.if_icmp .ne 8, 3) := by decide +kernel
theorem dX11_errand_117 : decode cX11_errand 117 = .ok (.iload 4, 2) := by decide +kernel
theorem dX11_errand_119 : decode cX11_errand 119 = .ok (.goto 5, 3) := by decide +kernel
theorem dX11_errand_122 : decode cX11_errand 122 = .ok (.iload 5, 2) := by decide +kernel
theorem dX11_errand_124 : decode cX11_errand 124 = .ok (.ireturn, 1) := by decide +kernel
theorem dX11_table_0 : decode cX11_table 0 = .ok (.iload_n 1, 1) := by decide +kernel
theorem dX11_table_1 : decode cX11_table 1 = .ok (.iconst 1, 1) := by decide +kernel
theorem dX11_table_2 : decode cX11_table 2 = .ok (.if_icmp .lt 17, 3) := by decide +kernel
theorem dX11_table_5 : decode cX11_table 5 = .ok (.iload_n 1, 1) := by decide +kernel
theorem dX11_table_6 : decode cX11_table 6 = .ok (.iconst 2, 1) := by decide +kernel
theorem dX11_table_7 : decode cX11_table 7 = .ok (.if_icmp .gt 12, 3) := by decide +kernel
theorem dX11_table_10 : decode cX11_table 10 = .ok (.iload_n 2, 1) := by decide +kernel
theorem dX11_table_11 : decode cX11_table 11 = .ok (.ifCond .lt 8, 3) := by decide +kernel
theorem dX11_table_14 : decode cX11_table 14 = .ok (.iload_n 2, 1) := by decide +kernel
theorem dX11_table_15 : decode cX11_table 15 = .ok (.iconst 2, 1) := by decide +kernel
theorem dX11_table_16 : decode cX11_table 16 = .ok (.if_icmp .le 5, 3) := by decide +kernel
theorem dX11_table_19 : decode cX11_table 19 = .ok (.iconst (-1), 1) := by decide +kernel
theorem dX11_table_20 : decode cX11_table 20 = .ok (.ireturn, 1) := by decide +kernel
theorem dX11_table_21 : decode cX11_table 21 = .ok (.aload_n 0, 1) := by decide +kernel
theorem dX11_table_22 : decode cX11_table 22 = .ok (.getfield 19, 3) := by decide +kernel
theorem dX11_table_25 : decode cX11_table 25 = .ok (.aload_n 0, 1) := by decide +kernel
theorem dX11_table_26 : decode cX11_table 26 = .ok (.getfield 64, 3) := by decide +kernel
theorem dX11_table_29 : decode cX11_table 29 = .ok (.invokevirtual 225, 3) := by decide +kernel
theorem dX11_table_32 : decode cX11_table 32 = .ok (.aload_n 0, 1) := by decide +kernel
theorem dX11_table_33 : decode cX11_table 33 = .ok (.getfield 19, 3) := by decide +kernel
theorem dX11_table_36 : decode cX11_table 36 = .ok (.iload_n 1, 1) := by decide +kernel
theorem dX11_table_37 : decode cX11_table 37 = .ok (.putfield 255, 3) := by decide +kernel
theorem dX11_table_40 : decode cX11_table 40 = .ok (.aload_n 0, 1) := by decide +kernel
theorem dX11_table_41 : decode cX11_table 41 = .ok (.getfield 72, 3) := by decide +kernel
theorem dX11_table_44 : decode cX11_table 44 = .ok (.aload_n 0, 1) := by decide +kernel
theorem dX11_table_45 : decode cX11_table 45 = .ok (.getfield 61, 3) := by decide +kernel
theorem dX11_table_48 : decode cX11_table 48 = .ok (.aload_n 0, 1) := by decide +kernel
theorem dX11_table_49 : decode cX11_table 49 = .ok (.getfield 19, 3) := by decide +kernel
theorem dX11_table_52 : decode cX11_table 52 = .ok (.invokevirtual 258, 3) := by decide +kernel
theorem dX11_table_55 : decode cX11_table 55 = .ok (.aload_n 0, 1) := by decide +kernel
theorem dX11_table_56 : decode cX11_table 56 = .ok (.getfield 72, 3) := by decide +kernel
theorem dX11_table_59 : decode cX11_table 59 = .ok (.iload_n 2, 1) := by decide +kernel
theorem dX11_table_60 : decode cX11_table 60 = .ok (.putfield 261, 3) := by decide +kernel
theorem dX11_table_63 : decode cX11_table 63 = .ok (.aload_n 0, 1) := by decide +kernel
theorem dX11_table_64 : decode cX11_table 64 = .ok (.getfield 72, 3) := by decide +kernel
theorem dX11_table_67 : decode cX11_table 67 = .ok (.invokevirtual 264, 3) := by decide +kernel
theorem dX11_table_70 : decode cX11_table 70 = .ok (.aload_n 0, 1) := by decide +kernel
theorem dX11_table_71 : decode cX11_table 71 = .ok (.getfield 72, 3) := by decide +kernel
theorem dX11_table_74 : decode cX11_table 74 = .ok (.invokevirtual 191, 3) := by decide +kernel
theorem dX11_table_77 : decode cX11_table 77 = .ok (.ireturn, 1) := by decide +kernel
theorem dX11_stand_0 : decode cX11_stand 0 = .ok (.aload_n 0, 1) := by decide +kernel
theorem dX11_stand_1 : decode cX11_stand 1 = .ok (.getfield 19, 3) := by decide +kernel
theorem dX11_stand_4 : decode cX11_stand 4 = .ok (.aload_n 0, 1) := by decide +kernel
theorem dX11_stand_5 : decode cX11_stand 5 = .ok (.getfield 64, 3) := by decide +kernel
theorem dX11_stand_8 : decode cX11_stand 8 = .ok (.invokevirtual 225, 3) := by decide +kernel
theorem dX11_stand_11 : decode cX11_stand 11 = .ok (.iconst 0, 1) := by decide +kernel
theorem dX11_stand_12 : decode cX11_stand 12 = .ok (.istore_n 1, 1) := by decide +kernel
theorem dX11_stand_13 : decode cX11_stand 13 = .ok (.iconst (-1), 1) := by decide +kernel
theorem dX11_stand_14 : decode cX11_stand 14 = .ok (.istore_n 2, 1) := by decide +kernel
theorem dX11_stand_15 : decode cX11_stand 15 = .ok (.iconst 0, 1) := by decide +kernel
theorem dX11_stand_16 : decode cX11_stand 16 = .ok (.istore_n 3, 1) := by decide +kernel
theorem dX11_stand_17 : decode cX11_stand 17 = .ok (.iload_n 3, 1) := by decide +kernel
theorem dX11_stand_18 : decode cX11_stand 18 = .ok (.sipush 200, 3) := by decide +kernel
theorem dX11_stand_21 : decode cX11_stand 21 = .ok (.if_icmp .gt 42, 3) := by decide +kernel
theorem dX11_stand_24 : decode cX11_stand 24 = .ok (.aload_n 0, 1) := by decide +kernel
theorem dX11_stand_25 : decode cX11_stand 25 = .ok (.getfield 19, 3) := by decide +kernel
theorem dX11_stand_28 : decode cX11_stand 28 = .ok (.iload_n 3, 1) := by decide +kernel
theorem dX11_stand_29 : decode cX11_stand 29 = .ok (.putfield 161, 3) := by decide +kernel
theorem dX11_stand_32 : decode cX11_stand 32 = .ok (.aload_n 0, 1) := by decide +kernel
theorem dX11_stand_33 : decode cX11_stand 33 = .ok (.invokevirtual 184, 3) := by decide +kernel
theorem dX11_stand_36 : decode cX11_stand 36 = .ok (.aload_n 0, 1) := by decide +kernel
theorem dX11_stand_37 : decode cX11_stand 37 = .ok (.getfield 72, 3) := by decide +kernel
theorem dX11_stand_40 : decode cX11_stand 40 = .ok (.invokevirtual 191, 3) := by decide +kernel
theorem dX11_stand_43 : decode cX11_stand 43 = .ok (.iload_n 2, 1) := by decide +kernel
theorem dX11_stand_44 : decode cX11_stand 44 = .ok (.if_icmp .le 13, 3) := by decide +kernel
theorem dX11_stand_47 : decode cX11_stand 47 = .ok (.aload_n 0, 1) := by decide +kernel
theorem dX11_stand_48 : decode cX11_stand 48 = .ok (.getfield 72, 3) := by decide +kernel
theorem dX11_stand_51 : decode cX11_stand 51 = .ok (.invokevirtual 191, 3) := by decide +kernel
theorem dX11_stand_54 : decode cX11_stand 54 = .ok (.istore_n 2, 1) := by decide +kernel
theorem dX11_stand_55 : decode cX11_stand 55 = .ok (.iload_n 3, 1) := by decide +kernel
theorem dX11_stand_56 : decode cX11_stand 56 = .ok (.istore_n 1, 1) := by decide +kernel
theorem dX11_stand_57 : decode cX11_stand 57 = .ok (.iinc 3 10, 3) := by decide +kernel
theorem dX11_stand_60 : decode cX11_stand 60 = .ok (.goto (-43), 3) := by decide +kernel
theorem dX11_stand_63 : decode cX11_stand 63 = .ok (.iload_n 1, 1) := by decide +kernel
theorem dX11_stand_64 : decode cX11_stand 64 = .ok (.ireturn, 1) := by decide +kernel
theorem dX11_ring_0 : decode cX11_ring 0 = .ok (.aload_n 0, 1) := by decide +kernel
theorem dX11_ring_1 : decode cX11_ring 1 = .ok (.getfield 19, 3) := by decide +kernel
theorem dX11_ring_4 : decode cX11_ring 4 = .ok (.aload_n 0, 1) := by decide +kernel
theorem dX11_ring_5 : decode cX11_ring 5 = .ok (.getfield 64, 3) := by decide +kernel
theorem dX11_ring_8 : decode cX11_ring 8 = .ok (.invokevirtual 225, 3) := by decide +kernel
theorem dX11_ring_11 : decode cX11_ring 11 = .ok (.iconst (-1), 1) := by decide +kernel
theorem dX11_ring_12 : decode cX11_ring 12 = .ok (.istore_n 1, 1) := by decide +kernel
theorem dX11_ring_13 : decode cX11_ring 13 = .ok (.iconst (-1), 1) := by decide +kernel
theorem dX11_ring_14 : decode cX11_ring 14 = .ok (.istore_n 2, 1) := by decide +kernel
theorem dX11_ring_15 : decode cX11_ring 15 = .ok (.iconst 1, 1) := by decide +kernel
theorem dX11_ring_16 : decode cX11_ring 16 = .ok (.istore_n 3, 1) := by decide +kernel
theorem dX11_ring_17 : decode cX11_ring 17 = .ok (.iload_n 3, 1) := by decide +kernel
theorem dX11_ring_18 : decode cX11_ring 18 = .ok (.aload_n 0, 1) := by decide +kernel
theorem dX11_ring_19 : decode cX11_ring 19 = .ok (.getfield 61, 3) := by decide +kernel
theorem dX11_ring_22 : decode cX11_ring 22 = .ok (.getfield 267, 3) := by decide +kernel
theorem dX11_ring_25 : decode cX11_ring 25 = .ok (.if_icmp .gt 52, 3) := by decide +kernel
theorem dX11_ring_28 : decode cX11_ring 28 = .ok (.aload_n 0, 1) := by decide +kernel
theorem dX11_ring_29 : decode cX11_ring 29 = .ok (.getfield 19, 3) := by decide +kernel
theorem dX11_ring_32 : decode cX11_ring 32 = .ok (.iload_n 3, 1) := by decide +kernel
theorem dX11_ring_33 : decode cX11_ring 33 = .ok (.putfield 168, 3) := by decide +kernel
theorem dX11_ring_36 : decode cX11_ring 36 = .ok (.aload_n 0, 1) := by decide +kernel
theorem dX11_ring_37 : decode cX11_ring 37 = .ok (.invokevirtual 184, 3) := by decide +kernel
theorem dX11_ring_40 : decode cX11_ring 40 = .ok (.aload_n 0, 1) := by decide +kernel
theorem dX11_ring_41 : decode cX11_ring 41 = .ok (.getfield 72, 3) := by decide +kernel
theorem dX11_ring_44 : decode cX11_ring 44 = .ok (.getfield 209, 3) := by decide +kernel
theorem dX11_ring_47 : decode cX11_ring 47 = .ok (.ifCond .ne 24, 3) := by decide +kernel
theorem dX11_ring_50 : decode cX11_ring 50 = .ok (.aload_n 0, 1) := by decide +kernel
theorem dX11_ring_51 : decode cX11_ring 51 = .ok (.getfield 72, 3) := by decide +kernel
theorem dX11_ring_54 : decode cX11_ring 54 = .ok (.invokevirtual 191, 3) := by decide +kernel
theorem dX11_ring_57 : decode cX11_ring 57 = .ok (.iload_n 2, 1) := by decide +kernel
theorem dX11_ring_58 : decode cX11_ring 58 = .ok (.if_icmp .le 13, 3) := by decide +kernel
theorem dX11_ring_61 : decode cX11_ring 61 = .ok (.aload_n 0, 1) := by decide +kernel
theorem dX11_ring_62 : decode cX11_ring 62 = .ok (.getfield 72, 3) := by decide +kernel
theorem dX11_ring_65 : decode cX11_ring 65 = .ok (.invokevirtual 191, 3) := by decide +kernel
theorem dX11_ring_68 : decode cX11_ring 68 = .ok (.istore_n 2, 1) := by decide +kernel
theorem dX11_ring_69 : decode cX11_ring 69 = .ok (.iload_n 3, 1) := by decide +kernel
theorem dX11_ring_70 : decode cX11_ring 70 = .ok (.istore_n 1, 1) := by decide +kernel
theorem dX11_ring_71 : decode cX11_ring 71 = .ok (.iinc 3 1, 3) := by decide +kernel
theorem dX11_ring_74 : decode cX11_ring 74 = .ok (.goto (-57), 3) := by decide +kernel
theorem dX11_ring_77 : decode cX11_ring 77 = .ok (.iload_n 1, 1) := by decide +kernel
theorem dX11_ring_78 : decode cX11_ring 78 = .ok (.ireturn, 1) := by decide +kernel
theorem dX11_best_0 : decode cX11_best 0 = .ok (.aload_n 0, 1) := by decide +kernel
theorem dX11_best_1 : decode cX11_best 1 = .ok (.iload_n 1, 1) := by decide +kernel
theorem dX11_best_2 : decode cX11_best 2 = .ok (.invokevirtual 270, 3) := by decide +kernel
theorem dX11_best_5 : decode cX11_best 5 = .ok (.ifCond .ne 5, 3) := by decide +kernel
theorem dX11_best_8 : decode cX11_best 8 = .ok (.iconst (-1), 1) := by decide +kernel
theorem dX11_best_9 : decode cX11_best 9 = .ok (.ireturn, 1) := by decide +kernel
theorem dX11_best_10 : decode cX11_best 10 = .ok (.aload_n 0, 1) := by decide +kernel
theorem dX11_best_11 : decode cX11_best 11 = .ok (.getfield 19, 3) := by decide +kernel
theorem dX11_best_14 : decode cX11_best 14 = .ok (.aload_n 0, 1) := by decide +kernel
theorem dX11_best_15 : decode cX11_best 15 = .ok (.getfield 64, 3) := by decide +kernel
theorem dX11_best_18 : decode cX11_best 18 = .ok (.invokevirtual 225, 3) := by decide +kernel
theorem dX11_best_21 : decode cX11_best 21 = .ok (.iconst 0, 1) := by decide +kernel
theorem dX11_best_22 : decode cX11_best 22 = .ok (.istore_n 3, 1) := by decide +kernel
theorem dX11_best_23 : decode cX11_best 23 = .ok (.iconst (-1), 1) := by decide +kernel
theorem dX11_best_24 : decode cX11_best 24 = .ok (.istore 4, 2) := by decide +kernel
theorem dX11_best_26 : decode cX11_best 26 = .ok (.iconst 0, 1) := by decide +kernel
theorem dX11_best_27 : decode cX11_best 27 = .ok (.istore 5, 2) := by decide +kernel
theorem dX11_best_29 : decode cX11_best 29 = .ok (.iload 5, 2) := by decide +kernel
theorem dX11_best_31 : decode cX11_best 31 = .ok (.bipush 99, 2) := by decide +kernel
theorem dX11_best_33 : decode cX11_best 33 = .ok (.if_icmp .gt 69, 3) := by decide +kernel
theorem dX11_best_36 : decode cX11_best 36 = .ok (.aload_n 0, 1) := by decide +kernel
theorem dX11_best_37 : decode cX11_best 37 = .ok (.getfield 19, 3) := by decide +kernel
theorem dX11_best_40 : decode cX11_best 40 = .ok (.getfield 128, 3) := by decide +kernel
theorem dX11_best_43 : decode cX11_best 43 = .ok (.iload_n 1, 1) := by decide +kernel
theorem dX11_best_44 : decode cX11_best 44 = .ok (.iload 5, 2) := by decide +kernel
theorem dX11_best_46 : decode cX11_best 46 = .ok (.iastore, 1) := by decide +kernel
theorem dX11_best_47 : decode cX11_best 47 = .ok (.aload_n 0, 1) := by decide +kernel
theorem dX11_best_48 : decode cX11_best 48 = .ok (.invokevirtual 184, 3) := by decide +kernel
theorem dX11_best_51 : decode cX11_best 51 = .ok (.iload_n 2, 1) := by decide +kernel
theorem dX11_best_52 : decode cX11_best 52 = .ok (.ifCond .eq 21, 3) := by decide +kernel
theorem dX11_best_55 : decode cX11_best 55 = .ok (.aload_n 0, 1) := by decide +kernel
theorem dX11_best_56 : decode cX11_best 56 = .ok (.getfield 72, 3) := by decide +kernel
theorem dX11_best_59 : decode cX11_best 59 = .ok (.invokevirtual 187, 3) := by decide +kernel
theorem dX11_best_62 : decode cX11_best 62 = .ok (.aload_n 0, 1) := by decide +kernel
theorem dX11_best_63 : decode cX11_best 63 = .ok (.getfield 72, 3) := by decide +kernel
theorem dX11_best_66 : decode cX11_best 66 = .ok (.invokevirtual 273, 3) := by decide +kernel
theorem dX11_best_69 : decode cX11_best 69 = .ok (.iadd, 1) := by decide +kernel
theorem dX11_best_70 : decode cX11_best 70 = .ok (.goto 10, 3) := by decide +kernel
theorem dX11_best_73 : decode cX11_best 73 = .ok (.aload_n 0, 1) := by decide +kernel
theorem dX11_best_74 : decode cX11_best 74 = .ok (.getfield 72, 3) := by decide +kernel
theorem dX11_best_77 : decode cX11_best 77 = .ok (.invokevirtual 191, 3) := by decide +kernel
theorem dX11_best_80 : decode cX11_best 80 = .ok (.istore 6, 2) := by decide +kernel
theorem dX11_best_82 : decode cX11_best 82 = .ok (.iload 6, 2) := by decide +kernel
theorem dX11_best_84 : decode cX11_best 84 = .ok (.iload 4, 2) := by decide +kernel
theorem dX11_best_86 : decode cX11_best 86 = .ok (.if_icmp .le 10, 3) := by decide +kernel
theorem dX11_best_89 : decode cX11_best 89 = .ok (.iload 6, 2) := by decide +kernel
theorem dX11_best_91 : decode cX11_best 91 = .ok (.istore 4, 2) := by decide +kernel
theorem dX11_best_93 : decode cX11_best 93 = .ok (.iload 5, 2) := by decide +kernel
theorem dX11_best_95 : decode cX11_best 95 = .ok (.istore_n 3, 1) := by decide +kernel
theorem dX11_best_96 : decode cX11_best 96 = .ok (.iinc 5 1, 3) := by decide +kernel
theorem dX11_best_99 : decode cX11_best 99 = .ok (.goto (-70), 3) := by decide +kernel
theorem dX11_best_102 : decode cX11_best 102 = .ok (.iload_n 3, 1) := by decide +kernel
theorem dX11_best_103 : decode cX11_best 103 = .ok (.ireturn, 1) := by decide +kernel
theorem dX11_tray_0 : decode cX11_tray 0 = .ok (.iload_n 1, 1) := by decide +kernel
theorem dX11_tray_1 : decode cX11_tray 1 = .ok (.ifCond .lt 19, 3) := by decide +kernel
theorem dX11_tray_4 : decode cX11_tray 4 = .ok (.iload_n 1, 1) := by decide +kernel
theorem dX11_tray_5 : decode cX11_tray 5 = .ok (.bipush 36, 2) := by decide +kernel
theorem dX11_tray_7 : decode cX11_tray 7 = .ok (.if_icmp .gt 13, 3) := by decide +kernel
theorem dX11_tray_10 : decode cX11_tray 10 = .ok (.iload_n 2, 1) := by decide +kernel
theorem dX11_tray_11 : decode cX11_tray 11 = .ok (.ifCond .lt 9, 3) := by decide +kernel
theorem dX11_tray_14 : decode cX11_tray 14 = .ok (.iload_n 2, 1) := by decide +kernel
theorem dX11_tray_15 : decode cX11_tray 15 = .ok (.bipush 99, 2) := by decide +kernel
theorem dX11_tray_17 : decode cX11_tray 17 = .ok (.if_icmp .le 5, 3) := by decide +kernel
theorem dX11_tray_20 : decode cX11_tray 20 = .ok (.iconst (-1), 1) := by decide +kernel
theorem dX11_tray_21 : decode cX11_tray 21 = .ok (.ireturn, 1) := by decide +kernel
theorem dX11_tray_22 : decode cX11_tray 22 = .ok (.aload_n 0, 1) := by decide +kernel
theorem dX11_tray_23 : decode cX11_tray 23 = .ok (.iload_n 1, 1) := by decide +kernel
theorem dX11_tray_24 : decode cX11_tray 24 = .ok (.iload_n 2, 1) := by decide +kernel
theorem dX11_tray_25 : decode cX11_tray 25 = .ok (.invokevirtual 276, 3) := by decide +kernel
theorem dX11_tray_28 : decode cX11_tray 28 = .ok (.ireturn, 1) := by decide +kernel
theorem dX11_price_0 : decode cX11_price 0 = .ok (.iload_n 1, 1) := by decide +kernel
theorem dX11_price_1 : decode cX11_price 1 = .ok (.ifCond .lt 9, 3) := by decide +kernel
theorem dX11_price_4 : decode cX11_price 4 = .ok (.iload_n 1, 1) := by decide +kernel
theorem dX11_price_5 : decode cX11_price 5 = .ok (.bipush 36, 2) := by decide +kernel
theorem dX11_price_7 : decode cX11_price 7 = .ok (.if_icmp .le 5, 3) := by decide +kernel
theorem dX11_price_10 : decode cX11_price 10 = .ok (.iconst (-1), 1) := by decide +kernel
theorem dX11_price_11 : decode cX11_price 11 = .ok (.ireturn, 1) := by decide +kernel
theorem dX11_price_12 : decode cX11_price 12 = .ok (.iconst 0, 1) := by decide +kernel
theorem dX11_price_13 : decode cX11_price 13 = .ok (.istore_n 2, 1) := by decide +kernel
theorem dX11_price_14 : decode cX11_price 14 = .ok (.iconst (-1), 1) := by decide +kernel
theorem dX11_price_15 : decode cX11_price 15 = .ok (.istore_n 3, 1) := by decide +kernel
theorem dX11_price_16 : decode cX11_price 16 = .ok (.iconst 0, 1) := by decide +kernel
theorem dX11_price_17 : decode cX11_price 17 = .ok (.istore 4, 2) := by decide +kernel
theorem dX11_price_19 : decode cX11_price 19 = .ok (.iload 4, 2) := by decide +kernel
theorem dX11_price_21 : decode cX11_price 21 = .ok (.bipush 99, 2) := by decide +kernel
theorem dX11_price_23 : decode cX11_price 23 = .ok (.if_icmp .gt 30, 3) := by decide +kernel
theorem dX11_price_26 : decode cX11_price 26 = .ok (.aload_n 0, 1) := by decide +kernel
theorem dX11_price_27 : decode cX11_price 27 = .ok (.iload_n 1, 1) := by decide +kernel
theorem dX11_price_28 : decode cX11_price 28 = .ok (.iload 4, 2) := by decide +kernel
theorem dX11_price_30 : decode cX11_price 30 = .ok (.invokevirtual 276, 3) := by decide +kernel
theorem dX11_price_33 : decode cX11_price 33 = .ok (.istore 5, 2) := by decide +kernel
theorem dX11_price_35 : decode cX11_price 35 = .ok (.iload 5, 2) := by decide +kernel
theorem dX11_price_37 : decode cX11_price 37 = .ok (.iload_n 3, 1) := by decide +kernel
theorem dX11_price_38 : decode cX11_price 38 = .ok (.if_icmp .le 9, 3) := by decide +kernel
theorem dX11_price_41 : decode cX11_price 41 = .ok (.iload 5, 2) := by decide +kernel
theorem dX11_price_43 : decode cX11_price 43 = .ok (.istore_n 3, 1) := by decide +kernel
theorem dX11_price_44 : decode cX11_price 44 = .ok (.iload 4, 2) := by decide +kernel
theorem dX11_price_46 : decode cX11_price 46 = .ok (.istore_n 2, 1) := by decide +kernel
theorem dX11_price_47 : decode cX11_price 47 = .ok (.iinc 4 1, 3) := by decide +kernel
theorem dX11_price_50 : decode cX11_price 50 = .ok (.goto (-31), 3) := by decide +kernel
theorem dX11_price_53 : decode cX11_price 53 = .ok (.iload_n 2, 1) := by decide +kernel
theorem dX11_price_54 : decode cX11_price 54 = .ok (.ireturn, 1) := by decide +kernel
theorem dX11_ahead_0 : decode cX11_ahead 0 = .ok (.aload_n 0, 1) := by decide +kernel
theorem dX11_ahead_1 : decode cX11_ahead 1 = .ok (.iload_n 1, 1) := by decide +kernel
theorem dX11_ahead_2 : decode cX11_ahead 2 = .ok (.invokevirtual 270, 3) := by decide +kernel
theorem dX11_ahead_5 : decode cX11_ahead 5 = .ok (.ifCond .eq 13, 3) := by decide +kernel
theorem dX11_ahead_8 : decode cX11_ahead 8 = .ok (.iload_n 2, 1) := by decide +kernel
theorem dX11_ahead_9 : decode cX11_ahead 9 = .ok (.ifCond .lt 9, 3) := by decide +kernel
theorem dX11_ahead_12 : decode cX11_ahead 12 = .ok (.iload_n 2, 1) := by decide +kernel
theorem dX11_ahead_13 : decode cX11_ahead 13 = .ok (.bipush 12, 2) := by decide +kernel
theorem dX11_ahead_15 : decode cX11_ahead 15 = .ok (.if_icmp .le 5, 3) := by decide +kernel
theorem dX11_ahead_18 : decode cX11_ahead 18 = .ok (.iconst (-1), 1) := by decide +kernel
theorem dX11_ahead_19 : decode cX11_ahead 19 = .ok (.ireturn, 1) := by decide +kernel
theorem dX11_ahead_20 : decode cX11_ahead 20 = .ok (.aload_n 0, 1) := by decide +kernel
theorem dX11_ahead_21 : decode cX11_ahead 21 = .ok (.iload_n 1, 1) := by decide +kernel
theorem dX11_ahead_22 : decode cX11_ahead 22 = .ok (.iload_n 2, 1) := by decide +kernel
theorem dX11_ahead_23 : decode cX11_ahead 23 = .ok (.invokevirtual 279, 3) := by decide +kernel
theorem dX11_ahead_26 : decode cX11_ahead 26 = .ok (.ireturn, 1) := by decide +kernel
theorem dX11_most_0 : decode cX11_most 0 = .ok (.aload_n 0, 1) := by decide +kernel
theorem dX11_most_1 : decode cX11_most 1 = .ok (.iload_n 1, 1) := by decide +kernel
theorem dX11_most_2 : decode cX11_most 2 = .ok (.invokevirtual 270, 3) := by decide +kernel
theorem dX11_most_5 : decode cX11_most 5 = .ok (.ifCond .ne 5, 3) := by decide +kernel
theorem dX11_most_8 : decode cX11_most 8 = .ok (.iconst (-1), 1) := by decide +kernel
theorem dX11_most_9 : decode cX11_most 9 = .ok (.ireturn, 1) := by decide +kernel
theorem dX11_most_10 : decode cX11_most 10 = .ok (.iconst 0, 1) := by decide +kernel
theorem dX11_most_11 : decode cX11_most 11 = .ok (.istore_n 2, 1) := by decide +kernel
theorem dX11_most_12 : decode cX11_most 12 = .ok (.aload_n 0, 1) := by decide +kernel
theorem dX11_most_13 : decode cX11_most 13 = .ok (.iload_n 1, 1) := by decide +kernel
theorem dX11_most_14 : decode cX11_most 14 = .ok (.iconst 0, 1) := by decide +kernel
theorem dX11_most_15 : decode cX11_most 15 = .ok (.invokevirtual 279, 3) := by decide +kernel
theorem dX11_most_18 : decode cX11_most 18 = .ok (.istore_n 3, 1) := by decide +kernel
theorem dX11_most_19 : decode cX11_most 19 = .ok (.iconst 1, 1) := by decide +kernel
theorem dX11_most_20 : decode cX11_most 20 = .ok (.istore 4, 2) := by decide +kernel
theorem dX11_most_22 : decode cX11_most 22 = .ok (.iload 4, 2) := by decide +kernel
theorem dX11_most_24 : decode cX11_most 24 = .ok (.bipush 12, 2) := by decide +kernel
theorem dX11_most_26 : decode cX11_most 26 = .ok (.if_icmp .gt 30, 3) := by decide +kernel
theorem dX11_most_29 : decode cX11_most 29 = .ok (.aload_n 0, 1) := by decide +kernel
theorem dX11_most_30 : decode cX11_most 30 = .ok (.iload_n 1, 1) := by decide +kernel
theorem dX11_most_31 : decode cX11_most 31 = .ok (.iload 4, 2) := by decide +kernel
theorem dX11_most_33 : decode cX11_most 33 = .ok (.invokevirtual 279, 3) := by decide +kernel
theorem dX11_most_36 : decode cX11_most 36 = .ok (.istore 5, 2) := by decide +kernel
theorem dX11_most_38 : decode cX11_most 38 = .ok (.iload 5, 2) := by decide +kernel
theorem dX11_most_40 : decode cX11_most 40 = .ok (.iload_n 3, 1) := by decide +kernel
theorem dX11_most_41 : decode cX11_most 41 = .ok (.if_icmp .le 9, 3) := by decide +kernel
theorem dX11_most_44 : decode cX11_most 44 = .ok (.iload 5, 2) := by decide +kernel
theorem dX11_most_46 : decode cX11_most 46 = .ok (.istore_n 3, 1) := by decide +kernel
theorem dX11_most_47 : decode cX11_most 47 = .ok (.iload 4, 2) := by decide +kernel
theorem dX11_most_49 : decode cX11_most 49 = .ok (.istore_n 2, 1) := by decide +kernel
theorem dX11_most_50 : decode cX11_most 50 = .ok (.iinc 4 1, 3) := by decide +kernel
theorem dX11_most_53 : decode cX11_most 53 = .ok (.goto (-31), 3) := by decide +kernel
theorem dX11_most_56 : decode cX11_most 56 = .ok (.iload_n 2, 1) := by decide +kernel
theorem dX11_most_57 : decode cX11_most 57 = .ok (.ireturn, 1) := by decide +kernel
theorem dX11_sell_0 : decode cX11_sell 0 = .ok (.iload_n 1, 1) := by decide +kernel
theorem dX11_sell_1 : decode cX11_sell 1 = .ok (.ifCond .lt 31, 3) := by decide +kernel
theorem dX11_sell_4 : decode cX11_sell 4 = .ok (.iload_n 1, 1) := by decide +kernel
theorem dX11_sell_5 : decode cX11_sell 5 = .ok (.bipush 9, 2) := by decide +kernel
theorem dX11_sell_7 : decode cX11_sell 7 = .ok (.if_icmp .gt 25, 3) := by decide +kernel
theorem dX11_sell_10 : decode cX11_sell 10 = .ok (.iload_n 2, 1) := by decide +kernel
theorem dX11_sell_11 : decode cX11_sell 11 = .ok (.ifCond .lt 21, 3) := by decide +kernel
theorem dX11_sell_14 : decode cX11_sell 14 = .ok (.iload_n 2, 1) := by decide +kernel
theorem dX11_sell_15 : decode cX11_sell 15 = .ok (.bipush 99, 2) := by decide +kernel
theorem dX11_sell_17 : decode cX11_sell 17 = .ok (.if_icmp .gt 15, 3) := by decide +kernel
theorem dX11_sell_20 : decode cX11_sell 20 = .ok (.aload_n 0, 1) := by decide +kernel
theorem dX11_sell_21 : decode cX11_sell 21 = .ok (.getfield 64, 3) := by decide +kernel
theorem dX11_sell_24 : decode cX11_sell 24 = .ok (.getfield 282, 3) := by decide +kernel
theorem dX11_sell_27 : decode cX11_sell 27 = .ok (.bipush 10, 2) := by decide +kernel
theorem dX11_sell_29 : decode cX11_sell 29 = .ok (.if_icmp .lt 5, 3) := by decide +kernel
theorem dX11_sell_32 : decode cX11_sell 32 = .ok (.iconst 0, 1) := by decide +kernel
theorem dX11_sell_33 : decode cX11_sell 33 = .ok (.ireturn, 1) := by decide +kernel
theorem dX11_sell_34 : decode cX11_sell 34 = .ok (.aload_n 0, 1) := by decide +kernel
theorem dX11_sell_35 : decode cX11_sell 35 = .ok (.getfield 64, 3) := by decide +kernel
theorem dX11_sell_38 : decode cX11_sell 38 = .ok (.getfield 285, 3) := by decide +kernel
theorem dX11_sell_41 : decode cX11_sell 41 = .ok (.aload_n 0, 1) := by decide +kernel
theorem dX11_sell_42 : decode cX11_sell 42 = .ok (.getfield 64, 3) := by decide +kernel
theorem dX11_sell_45 : decode cX11_sell 45 = .ok (.getfield 282, 3) := by decide +kernel
theorem dX11_sell_48 : decode cX11_sell 48 = .ok (.iconst 2, 1) := by decide +kernel
theorem dX11_sell_49 : decode cX11_sell 49 = .ok (.imul, 1) := by decide +kernel
theorem dX11_sell_50 : decode cX11_sell 50 = .ok (.iload_n 1, 1) := by decide +kernel
theorem dX11_sell_51 : decode cX11_sell 51 = .ok (.iastore, 1) := by decide +kernel
theorem dX11_sell_52 : decode cX11_sell 52 = .ok (.aload_n 0, 1) := by decide +kernel
theorem dX11_sell_53 : decode cX11_sell 53 = .ok (.getfield 64, 3) := by decide +kernel
theorem dX11_sell_56 : decode cX11_sell 56 = .ok (.getfield 285, 3) := by decide +kernel
theorem dX11_sell_59 : decode cX11_sell 59 = .ok (.aload_n 0, 1) := by decide +kernel
theorem dX11_sell_60 : decode cX11_sell 60 = .ok (.getfield 64, 3) := by decide +kernel
theorem dX11_sell_63 : decode cX11_sell 63 = .ok (.getfield 282, 3) := by decide +kernel
theorem dX11_sell_66 : decode cX11_sell 66 = .ok (.iconst 2, 1) := by decide +kernel
theorem dX11_sell_67 : decode cX11_sell 67 = .ok (.imul, 1) := by decide +kernel
theorem dX11_sell_68 : decode cX11_sell 68 = .ok (.iconst 1, 1) := by decide +kernel
theorem dX11_sell_69 : decode cX11_sell 69 = .ok (.iadd, 1) := by decide +kernel
theorem dX11_sell_70 : decode cX11_sell 70 = .ok (.iload_n 2, 1) := by decide +kernel
theorem dX11_sell_71 : decode cX11_sell 71 = .ok (.iastore, 1) := by decide +kernel
theorem dX11_sell_72 : decode cX11_sell 72 = .ok (.aload_n 0, 1) := by decide +kernel
theorem dX11_sell_73 : decode cX11_sell 73 = .ok (.getfield 64, 3) := by decide +kernel
theorem dX11_sell_76 : decode cX11_sell 76 = .ok (.dup, 1) := by decide +kernel
theorem dX11_sell_77 : decode cX11_sell 77 = .ok (.getfield 282, 3) := by decide +kernel
theorem dX11_sell_80 : decode cX11_sell 80 = .ok (.iconst 1, 1) := by decide +kernel
theorem dX11_sell_81 : decode cX11_sell 81 = .ok (.iadd, 1) := by decide +kernel
theorem dX11_sell_82 : decode cX11_sell 82 = .ok (.putfield 282, 3) := by decide +kernel
theorem dX11_sell_85 : decode cX11_sell 85 = .ok (.iconst 1, 1) := by decide +kernel
theorem dX11_sell_86 : decode cX11_sell 86 = .ok (.ireturn, 1) := by decide +kernel
theorem dX11_laws_0 : decode cX11_laws 0 = .ok (.iload_n 1, 1) := by decide +kernel
theorem dX11_laws_1 : decode cX11_laws 1 = .ok (.iconst (-1), 1) := by decide +kernel
theorem dX11_laws_2 : decode cX11_laws 2 = .ok (.if_icmp .lt 9, 3) := by decide +kernel
theorem dX11_laws_5 : decode cX11_laws 5 = .ok (.iload_n 1, 1) := by decide +kernel
theorem dX11_laws_6 : decode cX11_laws 6 = .ok (.bipush 9, 2) := by decide +kernel
theorem dX11_laws_8 : decode cX11_laws 8 = .ok (.if_icmp .le 6, 3) := by decide +kernel
theorem dX11_laws_11 : decode cX11_laws 11 = .ok (.bipush (-2), 2) := by decide +kernel
theorem dX11_laws_13 : decode cX11_laws 13 = .ok (.ireturn, 1) := by decide +kernel
theorem dX11_laws_14 : decode cX11_laws 14 = .ok (.iconst 0, 1) := by decide +kernel
theorem dX11_laws_15 : decode cX11_laws 15 = .ok (.istore_n 2, 1) := by decide +kernel
theorem dX11_laws_16 : decode cX11_laws 16 = .ok (.bipush (-2), 2) := by decide +kernel
theorem dX11_laws_18 : decode cX11_laws 18 = .ok (.istore_n 3, 1) := by decide +kernel
theorem dX11_laws_19 : decode cX11_laws 19 = .ok (.iconst 1, 1) := by decide +kernel
theorem dX11_laws_20 : decode cX11_laws 20 = .ok (.istore 4, 2) := by decide +kernel
theorem dX11_laws_22 : decode cX11_laws 22 = .ok (.iconst 0, 1) := by decide +kernel
theorem dX11_laws_23 : decode cX11_laws 23 = .ok (.istore 5, 2) := by decide +kernel
theorem dX11_laws_25 : decode cX11_laws 25 = .ok (.iload 5, 2) := by decide +kernel
theorem dX11_laws_27 : decode cX11_laws 27 = .ok (.bipush 9, 2) := by decide +kernel
theorem dX11_laws_29 : decode cX11_laws 29 = .ok (.if_icmp .gt 76, 3) := by decide +kernel
theorem dX11_laws_32 : decode cX11_laws 32 = .ok (.iconst 0, 1) := by decide +kernel
theorem dX11_laws_33 : decode cX11_laws 33 = .ok (.istore 6, 2) := by decide +kernel
theorem dX11_laws_35 : decode cX11_laws 35 = .ok (.iload 6, 2) := by decide +kernel
theorem dX11_laws_37 : decode cX11_laws 37 = .ok (.bipush 9, 2) := by decide +kernel
theorem dX11_laws_39 : decode cX11_laws 39 = .ok (.if_icmp .gt 60, 3) := by decide +kernel
theorem dX11_laws_42 : decode cX11_laws 42 = .ok (.aload_n 0, 1) := by decide +kernel
theorem dX11_laws_43 : decode cX11_laws 43 = .ok (.getfield 64, 3) := by decide +kernel
theorem dX11_laws_46 : decode cX11_laws 46 = .ok (.iload 5, 2) := by decide +kernel
theorem dX11_laws_48 : decode cX11_laws 48 = .ok (.iload 6, 2) := by decide +kernel
theorem dX11_laws_50 : decode cX11_laws 50 = .ok (.invokevirtual 288, 3) := by decide +kernel
theorem dX11_laws_53 : decode cX11_laws 53 = .ok (.ifCond .eq 40, 3) := by decide +kernel
theorem dX11_laws_56 : decode cX11_laws 56 = .ok (.iload 5, 2) := by decide +kernel
theorem dX11_laws_58 : decode cX11_laws 58 = .ok (.iload 6, 2) := by decide +kernel
theorem dX11_laws_60 : decode cX11_laws 60 = .ok (.iload_n 1, 1) := by decide +kernel
theorem dX11_laws_61 : decode cX11_laws 61 = .ok (.imul, 1) := by decide +kernel
theorem dX11_laws_62 : decode cX11_laws 62 = .ok (.iadd, 1) := by decide +kernel
theorem dX11_laws_63 : decode cX11_laws 63 = .ok (.istore 7, 2) := by decide +kernel
theorem dX11_laws_65 : decode cX11_laws 65 = .ok (.iload 4, 2) := by decide +kernel
theorem dX11_laws_67 : decode cX11_laws 67 = .ok (.ifCond .eq 17, 3) := by decide +kernel
theorem dX11_laws_70 : decode cX11_laws 70 = .ok (.iload_n 2, 1) := by decide +kernel
theorem dX11_laws_71 : decode cX11_laws 71 = .ok (.ifCond .eq 9, 3) := by decide +kernel
theorem dX11_laws_74 : decode cX11_laws 74 = .ok (.iload 7, 2) := by decide +kernel
theorem dX11_laws_76 : decode cX11_laws 76 = .ok (.iload_n 3, 1) := by decide +kernel
theorem dX11_laws_77 : decode cX11_laws 77 = .ok (.if_icmp .ne 7, 3) := by decide +kernel
theorem dX11_laws_80 : decode cX11_laws 80 = .ok (.iconst 1, 1) := by decide +kernel
theorem dX11_laws_81 : decode cX11_laws 81 = .ok (.goto 4, 3) := by decide +kernel
theorem dX11_laws_84 : decode cX11_laws 84 = .ok (.iconst 0, 1) := by decide +kernel
theorem dX11_laws_85 : decode cX11_laws 85 = .ok (.istore 4, 2) := by decide +kernel
theorem dX11_laws_87 : decode cX11_laws 87 = .ok (.iload 7, 2) := by decide +kernel
theorem dX11_laws_89 : decode cX11_laws 89 = .ok (.istore_n 3, 1) := by decide +kernel
theorem dX11_laws_90 : decode cX11_laws 90 = .ok (.iinc 2 1, 3) := by decide +kernel
theorem dX11_laws_93 : decode cX11_laws 93 = .ok (.iinc 6 1, 3) := by decide +kernel
theorem dX11_laws_96 : decode cX11_laws 96 = .ok (.goto (-61), 3) := by decide +kernel
theorem dX11_laws_99 : decode cX11_laws 99 = .ok (.iinc 5 1, 3) := by decide +kernel
theorem dX11_laws_102 : decode cX11_laws 102 = .ok (.goto (-77), 3) := by decide +kernel
theorem dX11_laws_105 : decode cX11_laws 105 = .ok (.iload_n 1, 1) := by decide +kernel
theorem dX11_laws_106 : decode cX11_laws 106 = .ok (.iconst (-1), 1) := by decide +kernel
theorem dX11_laws_107 : decode cX11_laws 107 = .ok (.if_icmp .ne 5, 3) := by decide +kernel
theorem dX11_laws_110 : decode cX11_laws 110 = .ok (.iload_n 2, 1) := by decide +kernel
theorem dX11_laws_111 : decode cX11_laws 111 = .ok (.ireturn, 1) := by decide +kernel
theorem dX11_laws_112 : decode cX11_laws 112 = .ok (.iload 4, 2) := by decide +kernel
theorem dX11_laws_114 : decode cX11_laws 114 = .ok (.ifCond .eq 7, 3) := by decide +kernel
theorem dX11_laws_117 : decode cX11_laws 117 = .ok (.iload_n 3, 1) := by decide +kernel
theorem dX11_laws_118 : decode cX11_laws 118 = .ok (.goto 5, 3) := by decide +kernel
theorem dX11_laws_121 : decode cX11_laws 121 = .ok (.bipush (-2), 2) := by decide +kernel
theorem dX11_laws_123 : decode cX11_laws 123 = .ok (.ireturn, 1) := by decide +kernel
theorem dX11_see_0 : decode cX11_see 0 = .ok (.iload_n 1, 1) := by decide +kernel
theorem dX11_see_1 : decode cX11_see 1 = .ok (.ifCond .lt 32, 3) := by decide +kernel
theorem dX11_see_4 : decode cX11_see 4 = .ok (.iload_n 1, 1) := by decide +kernel
theorem dX11_see_5 : decode cX11_see 5 = .ok (.sipush 900, 3) := by decide +kernel
theorem dX11_see_8 : decode cX11_see 8 = .ok (.if_icmp .gt 25, 3) := by decide +kernel
theorem dX11_see_11 : decode cX11_see 11 = .ok (.iload_n 2, 1) := by decide +kernel
theorem dX11_see_12 : decode cX11_see 12 = .ok (.ifCond .lt 21, 3) := by decide +kernel
theorem dX11_see_15 : decode cX11_see 15 = .ok (.iload_n 2, 1) := by decide +kernel
theorem dX11_see_16 : decode cX11_see 16 = .ok (.bipush 6, 2) := by decide +kernel
theorem dX11_see_18 : decode cX11_see 18 = .ok (.if_icmp .gt 15, 3) := by decide +kernel
theorem dX11_see_21 : decode cX11_see 21 = .ok (.aload_n 0, 1) := by decide +kernel
theorem dX11_see_22 : decode cX11_see 22 = .ok (.getfield 64, 3) := by decide +kernel
theorem dX11_see_25 : decode cX11_see 25 = .ok (.getfield 291, 3) := by decide +kernel
theorem dX11_see_28 : decode cX11_see 28 = .ok (.bipush 6, 2) := by decide +kernel
theorem dX11_see_30 : decode cX11_see 30 = .ok (.if_icmp .lt 5, 3) := by decide +kernel
theorem dX11_see_33 : decode cX11_see 33 = .ok (.iconst 0, 1) := by decide +kernel
theorem dX11_see_34 : decode cX11_see 34 = .ok (.ireturn, 1) := by decide +kernel
theorem dX11_see_35 : decode cX11_see 35 = .ok (.aload_n 0, 1) := by decide +kernel
theorem dX11_see_36 : decode cX11_see 36 = .ok (.getfield 64, 3) := by decide +kernel
theorem dX11_see_39 : decode cX11_see 39 = .ok (.getfield 294, 3) := by decide +kernel
theorem dX11_see_42 : decode cX11_see 42 = .ok (.aload_n 0, 1) := by decide +kernel
theorem dX11_see_43 : decode cX11_see 43 = .ok (.getfield 64, 3) := by decide +kernel
theorem dX11_see_46 : decode cX11_see 46 = .ok (.getfield 291, 3) := by decide +kernel
theorem dX11_see_49 : decode cX11_see 49 = .ok (.iconst 2, 1) := by decide +kernel
theorem dX11_see_50 : decode cX11_see 50 = .ok (.imul, 1) := by decide +kernel
theorem dX11_see_51 : decode cX11_see 51 = .ok (.iload_n 1, 1) := by decide +kernel
theorem dX11_see_52 : decode cX11_see 52 = .ok (.iastore, 1) := by decide +kernel
theorem dX11_see_53 : decode cX11_see 53 = .ok (.aload_n 0, 1) := by decide +kernel
theorem dX11_see_54 : decode cX11_see 54 = .ok (.getfield 64, 3) := by decide +kernel
theorem dX11_see_57 : decode cX11_see 57 = .ok (.getfield 294, 3) := by decide +kernel
theorem dX11_see_60 : decode cX11_see 60 = .ok (.aload_n 0, 1) := by decide +kernel
theorem dX11_see_61 : decode cX11_see 61 = .ok (.getfield 64, 3) := by decide +kernel
theorem dX11_see_64 : decode cX11_see 64 = .ok (.getfield 291, 3) := by decide +kernel
theorem dX11_see_67 : decode cX11_see 67 = .ok (.iconst 2, 1) := by decide +kernel
theorem dX11_see_68 : decode cX11_see 68 = .ok (.imul, 1) := by decide +kernel
theorem dX11_see_69 : decode cX11_see 69 = .ok (.iconst 1, 1) := by decide +kernel
theorem dX11_see_70 : decode cX11_see 70 = .ok (.iadd, 1) := by decide +kernel
theorem dX11_see_71 : decode cX11_see 71 = .ok (.iload_n 2, 1) := by decide +kernel
theorem dX11_see_72 : decode cX11_see 72 = .ok (.iastore, 1) := by decide +kernel
theorem dX11_see_73 : decode cX11_see 73 = .ok (.aload_n 0, 1) := by decide +kernel
theorem dX11_see_74 : decode cX11_see 74 = .ok (.getfield 64, 3) := by decide +kernel
theorem dX11_see_77 : decode cX11_see 77 = .ok (.dup, 1) := by decide +kernel
theorem dX11_see_78 : decode cX11_see 78 = .ok (.getfield 291, 3) := by decide +kernel
theorem dX11_see_81 : decode cX11_see 81 = .ok (.iconst 1, 1) := by decide +kernel
theorem dX11_see_82 : decode cX11_see 82 = .ok (.iadd, 1) := by decide +kernel
theorem dX11_see_83 : decode cX11_see 83 = .ok (.putfield 291, 3) := by decide +kernel
theorem dX11_see_86 : decode cX11_see 86 = .ok (.iconst 1, 1) := by decide +kernel
theorem dX11_see_87 : decode cX11_see 87 = .ok (.ireturn, 1) := by decide +kernel
theorem dX11_was_0 : decode cX11_was 0 = .ok (.aload_n 0, 1) := by decide +kernel
theorem dX11_was_1 : decode cX11_was 1 = .ok (.invokevirtual 194, 3) := by decide +kernel
theorem dX11_was_4 : decode cX11_was 4 = .ok (.iconst 0, 1) := by decide +kernel
theorem dX11_was_5 : decode cX11_was 5 = .ok (.istore_n 1, 1) := by decide +kernel
theorem dX11_was_6 : decode cX11_was 6 = .ok (.iconst 0, 1) := by decide +kernel
theorem dX11_was_7 : decode cX11_was 7 = .ok (.istore_n 2, 1) := by decide +kernel
theorem dX11_was_8 : decode cX11_was 8 = .ok (.iload_n 2, 1) := by decide +kernel
theorem dX11_was_9 : decode cX11_was 9 = .ok (.bipush 9, 2) := by decide +kernel
theorem dX11_was_11 : decode cX11_was 11 = .ok (.if_icmp .gt 97, 3) := by decide +kernel
theorem dX11_was_14 : decode cX11_was 14 = .ok (.iconst 1, 1) := by decide +kernel
theorem dX11_was_15 : decode cX11_was 15 = .ok (.istore_n 3, 1) := by decide +kernel
theorem dX11_was_16 : decode cX11_was 16 = .ok (.iconst 0, 1) := by decide +kernel
theorem dX11_was_17 : decode cX11_was 17 = .ok (.istore 4, 2) := by decide +kernel
theorem dX11_was_19 : decode cX11_was 19 = .ok (.iload 4, 2) := by decide +kernel
theorem dX11_was_21 : decode cX11_was 21 = .ok (.aload_n 0, 1) := by decide +kernel
theorem dX11_was_22 : decode cX11_was 22 = .ok (.getfield 64, 3) := by decide +kernel
theorem dX11_was_25 : decode cX11_was 25 = .ok (.getfield 291, 3) := by decide +kernel
theorem dX11_was_28 : decode cX11_was 28 = .ok (.if_icmp .ge 64, 3) := by decide +kernel
theorem dX11_was_31 : decode cX11_was 31 = .ok (.aload_n 0, 1) := by decide +kernel
theorem dX11_was_32 : decode cX11_was 32 = .ok (.getfield 64, 3) := by decide +kernel
theorem dX11_was_35 : decode cX11_was 35 = .ok (.getfield 294, 3) := by decide +kernel
theorem dX11_was_38 : decode cX11_was 38 = .ok (.iload 4, 2) := by decide +kernel
theorem dX11_was_40 : decode cX11_was 40 = .ok (.iconst 2, 1) := by decide +kernel
theorem dX11_was_41 : decode cX11_was 41 = .ok (.imul, 1) := by decide +kernel
theorem dX11_was_42 : decode cX11_was 42 = .ok (.iaload, 1) := by decide +kernel
theorem dX11_was_43 : decode cX11_was 43 = .ok (.bipush 60, 2) := by decide +kernel
theorem dX11_was_45 : decode cX11_was 45 = .ok (.iload_n 2, 1) := by decide +kernel
theorem dX11_was_46 : decode cX11_was 46 = .ok (.imul, 1) := by decide +kernel
theorem dX11_was_47 : decode cX11_was 47 = .ok (.isub, 1) := by decide +kernel
theorem dX11_was_48 : decode cX11_was 48 = .ok (.istore 5, 2) := by decide +kernel
theorem dX11_was_50 : decode cX11_was 50 = .ok (.iload_n 3, 1) := by decide +kernel
theorem dX11_was_51 : decode cX11_was 51 = .ok (.ifCond .eq 33, 3) := by decide +kernel
theorem dX11_was_54 : decode cX11_was 54 = .ok (.aload_n 0, 1) := by decide +kernel
theorem dX11_was_55 : decode cX11_was 55 = .ok (.getfield 72, 3) := by decide +kernel
theorem dX11_was_58 : decode cX11_was 58 = .ok (.iload 5, 2) := by decide +kernel
theorem dX11_was_60 : decode cX11_was 60 = .ok (.invokevirtual 222, 3) := by decide +kernel
theorem dX11_was_63 : decode cX11_was 63 = .ok (.aload_n 0, 1) := by decide +kernel
theorem dX11_was_64 : decode cX11_was 64 = .ok (.getfield 64, 3) := by decide +kernel
theorem dX11_was_67 : decode cX11_was 67 = .ok (.getfield 294, 3) := by decide +kernel
theorem dX11_was_70 : decode cX11_was 70 = .ok (.iload 4, 2) := by decide +kernel
theorem dX11_was_72 : decode cX11_was 72 = .ok (.iconst 2, 1) := by decide +kernel
theorem dX11_was_73 : decode cX11_was 73 = .ok (.imul, 1) := by decide +kernel
theorem dX11_was_74 : decode cX11_was 74 = .ok (.iconst 1, 1) := by decide +kernel
theorem dX11_was_75 : decode cX11_was 75 = .ok (.iadd, 1) := by decide +kernel
theorem dX11_was_76 : decode cX11_was 76 = .ok (.iaload, 1) := by decide +kernel
theorem dX11_was_77 : decode cX11_was 77 = .ok (.if_icmp .ne 7, 3) := by decide +kernel
theorem dX11_was_80 : decode cX11_was 80 = .ok (.iconst 1, 1) := by decide +kernel
theorem dX11_was_81 : decode cX11_was 81 = .ok (.goto 4, 3) := by decide +kernel
theorem dX11_was_84 : decode cX11_was 84 = .ok (.iconst 0, 1) := by decide +kernel
theorem dX11_was_85 : decode cX11_was 85 = .ok (.istore_n 3, 1) := by decide +kernel
theorem dX11_was_86 : decode cX11_was 86 = .ok (.iinc 4 1, 3) := by decide +kernel
theorem dX11_was_89 : decode cX11_was 89 = .ok (.goto (-70), 3) := by decide +kernel
theorem dX11_was_92 : decode cX11_was 92 = .ok (.iload_n 3, 1) := by decide +kernel
theorem dX11_was_93 : decode cX11_was 93 = .ok (.ifCond .eq 9, 3) := by decide +kernel
theorem dX11_was_96 : decode cX11_was 96 = .ok (.iload_n 1, 1) := by decide +kernel
theorem dX11_was_97 : decode cX11_was 97 = .ok (.iconst 1, 1) := by decide +kernel
theorem dX11_was_98 : decode cX11_was 98 = .ok (.iload_n 2, 1) := by decide +kernel
theorem dX11_was_99 : decode cX11_was 99 = .ok (.ishl, 1) := by decide +kernel
theorem dX11_was_100 : decode cX11_was 100 = .ok (.ior, 1) := by decide +kernel
theorem dX11_was_101 : decode cX11_was 101 = .ok (.istore_n 1, 1) := by decide +kernel
theorem dX11_was_102 : decode cX11_was 102 = .ok (.iinc 2 1, 3) := by decide +kernel
theorem dX11_was_105 : decode cX11_was 105 = .ok (.goto (-97), 3) := by decide +kernel
theorem dX11_was_108 : decode cX11_was 108 = .ok (.iload_n 1, 1) := by decide +kernel
theorem dX11_was_109 : decode cX11_was 109 = .ok (.ireturn, 1) := by decide +kernel
theorem dX11_years_0 : decode cX11_years 0 = .ok (.iload_n 1, 1) := by decide +kernel
theorem dX11_years_1 : decode cX11_years 1 = .ok (.ifCond .lt 30, 3) := by decide +kernel
theorem dX11_years_4 : decode cX11_years 4 = .ok (.iload_n 1, 1) := by decide +kernel
theorem dX11_years_5 : decode cX11_years 5 = .ok (.sipush 9999, 3) := by decide +kernel
theorem dX11_years_8 : decode cX11_years 8 = .ok (.if_icmp .gt 23, 3) := by decide +kernel
theorem dX11_years_11 : decode cX11_years 11 = .ok (.iload_n 2, 1) := by decide +kernel
theorem dX11_years_12 : decode cX11_years 12 = .ok (.iconst 1, 1) := by decide +kernel
theorem dX11_years_13 : decode cX11_years 13 = .ok (.if_icmp .lt 18, 3) := by decide +kernel
theorem dX11_years_16 : decode cX11_years 16 = .ok (.iload_n 2, 1) := by decide +kernel
theorem dX11_years_17 : decode cX11_years 17 = .ok (.bipush 60, 2) := by decide +kernel
theorem dX11_years_19 : decode cX11_years 19 = .ok (.if_icmp .gt 12, 3) := by decide +kernel
theorem dX11_years_22 : decode cX11_years 22 = .ok (.iload_n 3, 1) := by decide +kernel
theorem dX11_years_23 : decode cX11_years 23 = .ok (.ifCond .lt 8, 3) := by decide +kernel
theorem dX11_years_26 : decode cX11_years 26 = .ok (.iload_n 3, 1) := by decide +kernel
theorem dX11_years_27 : decode cX11_years 27 = .ok (.iconst 2, 1) := by decide +kernel
theorem dX11_years_28 : decode cX11_years 28 = .ok (.if_icmp .le 5, 3) := by decide +kernel
theorem dX11_years_31 : decode cX11_years 31 = .ok (.iconst (-1), 1) := by decide +kernel
theorem dX11_years_32 : decode cX11_years 32 = .ok (.ireturn, 1) := by decide +kernel
theorem dX11_years_33 : decode cX11_years 33 = .ok (.aload_n 0, 1) := by decide +kernel
theorem dX11_years_34 : decode cX11_years 34 = .ok (.getfield 19, 3) := by decide +kernel
theorem dX11_years_37 : decode cX11_years 37 = .ok (.aload_n 0, 1) := by decide +kernel
theorem dX11_years_38 : decode cX11_years 38 = .ok (.getfield 64, 3) := by decide +kernel
theorem dX11_years_41 : decode cX11_years 41 = .ok (.invokevirtual 225, 3) := by decide +kernel
theorem dX11_years_44 : decode cX11_years 44 = .ok (.iload_n 1, 1) := by decide +kernel
theorem dX11_years_45 : decode cX11_years 45 = .ok (.i2l, 1) := by decide +kernel
theorem dX11_years_46 : decode cX11_years 46 = .ok (.lstore 4, 2) := by decide +kernel
theorem dX11_years_48 : decode cX11_years 48 = .ok (.iconst 0, 1) := by decide +kernel
theorem dX11_years_49 : decode cX11_years 49 = .ok (.istore 6, 2) := by decide +kernel
theorem dX11_years_51 : decode cX11_years 51 = .ok (.iconst 0, 1) := by decide +kernel
theorem dX11_years_52 : decode cX11_years 52 = .ok (.istore 7, 2) := by decide +kernel
theorem dX11_years_54 : decode cX11_years 54 = .ok (.iload 7, 2) := by decide +kernel
theorem dX11_years_56 : decode cX11_years 56 = .ok (.iload_n 2, 1) := by decide +kernel
theorem dX11_years_57 : decode cX11_years 57 = .ok (.if_icmp .ge 146, 3) := by decide +kernel
theorem dX11_years_60 : decode cX11_years 60 = .ok (.aload_n 0, 1) := by decide +kernel
theorem dX11_years_61 : decode cX11_years 61 = .ok (.getfield 19, 3) := by decide +kernel
theorem dX11_years_64 : decode cX11_years 64 = .ok (.iconst 0, 1) := by decide +kernel
theorem dX11_years_65 : decode cX11_years 65 = .ok (.putfield 158, 3) := by decide +kernel
theorem dX11_years_68 : decode cX11_years 68 = .ok (.iconst 0, 1) := by decide +kernel
theorem dX11_years_69 : decode cX11_years 69 = .ok (.istore 8, 2) := by decide +kernel
theorem dX11_years_71 : decode cX11_years 71 = .ok (.iload 8, 2) := by decide +kernel
theorem dX11_years_73 : decode cX11_years 73 = .ok (.aload_n 0, 1) := by decide +kernel
theorem dX11_years_74 : decode cX11_years 74 = .ok (.getfield 61, 3) := by decide +kernel
theorem dX11_years_77 : decode cX11_years 77 = .ok (.getfield 229, 3) := by decide +kernel
theorem dX11_years_80 : decode cX11_years 80 = .ok (.if_icmp .ge 69, 3) := by decide +kernel
theorem dX11_years_83 : decode cX11_years 83 = .ok (.lload 4, 2) := by decide +kernel
theorem dX11_years_85 : decode cX11_years 85 = .ok (.ldc2_w 297, 3) := by decide +kernel
theorem dX11_years_88 : decode cX11_years 88 = .ok (.lmul, 1) := by decide +kernel
theorem dX11_years_89 : decode cX11_years 89 = .ok (.ldc2_w 299, 3) := by decide +kernel
theorem dX11_years_92 : decode cX11_years 92 = .ok (.ladd, 1) := by decide +kernel
theorem dX11_years_93 : decode cX11_years 93 = .ok (.ldc2_w 301, 3) := by decide +kernel
theorem dX11_years_96 : decode cX11_years 96 = .ok (.lrem, 1) := by decide +kernel
theorem dX11_years_97 : decode cX11_years 97 = .ok (.lstore 4, 2) := by decide +kernel
theorem dX11_years_99 : decode cX11_years 99 = .ok (.lload 4, 2) := by decide +kernel
theorem dX11_years_101 : decode cX11_years 101 = .ok (.ldc2_w 303, 3) := by decide +kernel
theorem dX11_years_104 : decode cX11_years 104 = .ok (.ldiv, 1) := by decide +kernel
theorem dX11_years_105 : decode cX11_years 105 = .ok (.ldc2_w 305, 3) := by decide +kernel
theorem dX11_years_108 : decode cX11_years 108 = .ok (.lrem, 1) := by decide +kernel
theorem dX11_years_109 : decode cX11_years 109 = .ok (.aload_n 0, 1) := by decide +kernel
theorem dX11_years_110 : decode cX11_years 110 = .ok (.getfield 61, 3) := by decide +kernel
theorem dX11_years_113 : decode cX11_years 113 = .ok (.getfield 137, 3) := by decide +kernel
theorem dX11_years_116 : decode cX11_years 116 = .ok (.iload 8, 2) := by decide +kernel
theorem dX11_years_118 : decode cX11_years 118 = .ok (.aaload, 1) := by decide +kernel
theorem dX11_years_119 : decode cX11_years 119 = .ok (.getfield 149, 3) := by decide +kernel
theorem dX11_years_122 : decode cX11_years 122 = .ok (.i2l, 1) := by decide +kernel
theorem dX11_years_123 : decode cX11_years 123 = .ok (.lcmp, 1) := by decide +kernel
theorem dX11_years_124 : decode cX11_years 124 = .ok (.ifCond .ge 19, 3) := by decide +kernel
theorem dX11_years_127 : decode cX11_years 127 = .ok (.aload_n 0, 1) := by decide +kernel
theorem dX11_years_128 : decode cX11_years 128 = .ok (.getfield 19, 3) := by decide +kernel
theorem dX11_years_131 : decode cX11_years 131 = .ok (.dup, 1) := by decide +kernel
theorem dX11_years_132 : decode cX11_years 132 = .ok (.getfield 158, 3) := by decide +kernel
theorem dX11_years_135 : decode cX11_years 135 = .ok (.iconst 1, 1) := by decide +kernel
theorem dX11_years_136 : decode cX11_years 136 = .ok (.iload 8, 2) := by decide +kernel
theorem dX11_years_138 : decode cX11_years 138 = .ok (.ishl, 1) := by decide +kernel
theorem dX11_years_139 : decode cX11_years 139 = .ok (.ior, 1) := by decide +kernel
theorem dX11_years_140 : decode cX11_years 140 = .ok (.putfield 158, 3) := by decide +kernel
theorem dX11_years_143 : decode cX11_years 143 = .ok (.iinc 8 1, 3) := by decide +kernel
theorem dX11_years_146 : decode cX11_years 146 = .ok (.goto (-75), 3) := by decide +kernel
theorem dX11_years_149 : decode cX11_years 149 = .ok (.aload_n 0, 1) := by decide +kernel
theorem dX11_years_150 : decode cX11_years 150 = .ok (.invokevirtual 184, 3) := by decide +kernel
theorem dX11_years_153 : decode cX11_years 153 = .ok (.iload 6, 2) := by decide +kernel
theorem dX11_years_155 : decode cX11_years 155 = .ok (.iload_n 3, 1) := by decide +kernel
theorem dX11_years_156 : decode cX11_years 156 = .ok (.ifCond .ne 13, 3) := by decide +kernel
theorem dX11_years_159 : decode cX11_years 159 = .ok (.aload_n 0, 1) := by decide +kernel
theorem dX11_years_160 : decode cX11_years 160 = .ok (.getfield 72, 3) := by decide +kernel
theorem dX11_years_163 : decode cX11_years 163 = .ok (.invokevirtual 187, 3) := by decide +kernel
theorem dX11_years_166 : decode cX11_years 166 = .ok (.goto 28, 3) := by decide +kernel
theorem dX11_years_169 : decode cX11_years 169 = .ok (.iload_n 3, 1) := by decide +kernel
theorem dX11_years_170 : decode cX11_years 170 = .ok (.iconst 1, 1) := by decide +kernel
theorem dX11_years_171 : decode cX11_years 171 = .ok (.if_icmp .ne 13, 3) := by decide +kernel
theorem dX11_years_174 : decode cX11_years 174 = .ok (.aload_n 0, 1) := by decide +kernel
theorem dX11_years_175 : decode cX11_years 175 = .ok (.getfield 72, 3) := by decide +kernel
theorem dX11_years_178 : decode cX11_years 178 = .ok (.invokevirtual 191, 3) := by decide +kernel
theorem dX11_years_181 : decode cX11_years 181 = .ok (.goto 13, 3) := by decide +kernel
theorem dX11_years_184 : decode cX11_years 184 = .ok (.aload_n 0, 1) := by decide +kernel
theorem dX11_years_185 : decode cX11_years 185 = .ok (.getfield 72, 3) := by decide +kernel
theorem dX11_years_188 : decode cX11_years 188 = .ok (.getfield 209, 3) := by decide +kernel
theorem dX11_years_191 : decode cX11_years 191 = .ok (.invokestatic 215, 3) := by decide +kernel
theorem dX11_years_194 : decode cX11_years 194 = .ok (.iadd, 1) := by decide +kernel
theorem dX11_years_195 : decode cX11_years 195 = .ok (.istore 6, 2) := by decide +kernel
theorem dX11_years_197 : decode cX11_years 197 = .ok (.iinc 7 1, 3) := by decide +kernel
theorem dX11_years_200 : decode cX11_years 200 = .ok (.goto (-146), 3) := by decide +kernel
theorem dX11_years_203 : decode cX11_years 203 = .ok (.iload 6, 2) := by decide +kernel
theorem dX11_years_205 : decode cX11_years 205 = .ok (.ireturn, 1) := by decide +kernel
theorem dX11_mark_0 : decode cX11_mark 0 = .ok (.iload_n 1, 1) := by decide +kernel
theorem dX11_mark_1 : decode cX11_mark 1 = .ok (.ifCond .lt 12, 3) := by decide +kernel
theorem dX11_mark_4 : decode cX11_mark 4 = .ok (.iload_n 1, 1) := by decide +kernel
theorem dX11_mark_5 : decode cX11_mark 5 = .ok (.aload_n 0, 1) := by decide +kernel
theorem dX11_mark_6 : decode cX11_mark 6 = .ok (.getfield 23, 3) := by decide +kernel
theorem dX11_mark_9 : decode cX11_mark 9 = .ok (.arraylength, 1) := by decide +kernel
theorem dX11_mark_10 : decode cX11_mark 10 = .ok (.if_icmp .lt 5, 3) := by decide +kernel
theorem dX11_mark_13 : decode cX11_mark 13 = .ok (.iconst 0, 1) := by decide +kernel
theorem dX11_mark_14 : decode cX11_mark 14 = .ok (.ireturn, 1) := by decide +kernel
theorem dX11_mark_15 : decode cX11_mark 15 = .ok (.aload_n 0, 1) := by decide +kernel
theorem dX11_mark_16 : decode cX11_mark 16 = .ok (.getfield 23, 3) := by decide +kernel
theorem dX11_mark_19 : decode cX11_mark 19 = .ok (.iload_n 1, 1) := by decide +kernel
theorem dX11_mark_20 : decode cX11_mark 20 = .ok (.aaload, 1) := by decide +kernel
theorem dX11_mark_21 : decode cX11_mark 21 = .ok (.astore_n 3, 1) := by decide +kernel
theorem dX11_mark_22 : decode cX11_mark 22 = .ok (.iload_n 2, 1) := by decide +kernel
theorem dX11_mark_23 : decode cX11_mark 23 = .ok (.ifCond .ne 18, 3) := by decide +kernel
theorem dX11_mark_26 : decode cX11_mark 26 = .ok (.aload_n 3, 1) := by decide +kernel
theorem dX11_mark_27 : decode cX11_mark 27 = .ok (.aload_n 0, 1) := by decide +kernel
theorem dX11_mark_28 : decode cX11_mark 28 = .ok (.getfield 64, 3) := by decide +kernel
theorem dX11_mark_31 : decode cX11_mark 31 = .ok (.invokevirtual 307, 3) := by decide +kernel
theorem dX11_mark_34 : decode cX11_mark 34 = .ok (.aload_n 3, 1) := by decide +kernel
theorem dX11_mark_35 : decode cX11_mark 35 = .ok (.iconst 1, 1) := by decide +kernel
theorem dX11_mark_36 : decode cX11_mark 36 = .ok (.putfield 94, 3) := by decide +kernel
theorem dX11_mark_39 : decode cX11_mark 39 = .ok (.iconst 1, 1) := by decide +kernel
theorem dX11_mark_40 : decode cX11_mark 40 = .ok (.ireturn, 1) := by decide +kernel
theorem dX11_mark_41 : decode cX11_mark 41 = .ok (.aload_n 3, 1) := by decide +kernel
theorem dX11_mark_42 : decode cX11_mark 42 = .ok (.getfield 94, 3) := by decide +kernel
theorem dX11_mark_45 : decode cX11_mark 45 = .ok (.ifCond .ne 5, 3) := by decide +kernel
theorem dX11_mark_48 : decode cX11_mark 48 = .ok (.iconst 0, 1) := by decide +kernel
theorem dX11_mark_49 : decode cX11_mark 49 = .ok (.ireturn, 1) := by decide +kernel
theorem dX11_mark_50 : decode cX11_mark 50 = .ok (.aload_n 0, 1) := by decide +kernel
theorem dX11_mark_51 : decode cX11_mark 51 = .ok (.getfield 64, 3) := by decide +kernel
theorem dX11_mark_54 : decode cX11_mark 54 = .ok (.aload_n 3, 1) := by decide +kernel
theorem dX11_mark_55 : decode cX11_mark 55 = .ok (.invokevirtual 307, 3) := by decide +kernel
theorem dX11_mark_58 : decode cX11_mark 58 = .ok (.aload_n 0, 1) := by decide +kernel
theorem dX11_mark_59 : decode cX11_mark 59 = .ok (.iconst 0, 1) := by decide +kernel
theorem dX11_mark_60 : decode cX11_mark 60 = .ok (.putfield 91, 3) := by decide +kernel
theorem dX11_mark_63 : decode cX11_mark 63 = .ok (.iconst 1, 1) := by decide +kernel
theorem dX11_mark_64 : decode cX11_mark 64 = .ok (.ireturn, 1) := by decide +kernel
theorem dX11_count_0 : decode cX11_count 0 = .ok (.iload_n 1, 1) := by decide +kernel
theorem dX11_count_1 : decode cX11_count 1 = .ok (.tableswitch 168 0 12 #[67, 75, 83, 91, 99, 107, 115, 123, 131, 139, 147, 155, 160], 67) := by decide +kernel
theorem dX11_count_68 : decode cX11_count 68 = .ok (.aload_n 0, 1) := by decide +kernel
theorem dX11_count_69 : decode cX11_count 69 = .ok (.getfield 61, 3) := by decide +kernel
theorem dX11_count_72 : decode cX11_count 72 = .ok (.getfield 310, 3) := by decide +kernel
theorem dX11_count_75 : decode cX11_count 75 = .ok (.ireturn, 1) := by decide +kernel
theorem dX11_count_76 : decode cX11_count 76 = .ok (.aload_n 0, 1) := by decide +kernel
theorem dX11_count_77 : decode cX11_count 77 = .ok (.getfield 61, 3) := by decide +kernel
theorem dX11_count_80 : decode cX11_count 80 = .ok (.getfield 313, 3) := by decide +kernel
theorem dX11_count_83 : decode cX11_count 83 = .ok (.ireturn, 1) := by decide +kernel
theorem dX11_count_84 : decode cX11_count 84 = .ok (.aload_n 0, 1) := by decide +kernel
theorem dX11_count_85 : decode cX11_count 85 = .ok (.getfield 61, 3) := by decide +kernel
theorem dX11_count_88 : decode cX11_count 88 = .ok (.getfield 229, 3) := by decide +kernel
theorem dX11_count_91 : decode cX11_count 91 = .ok (.ireturn, 1) := by decide +kernel
theorem dX11_count_92 : decode cX11_count 92 = .ok (.aload_n 0, 1) := by decide +kernel
theorem dX11_count_93 : decode cX11_count 93 = .ok (.getfield 61, 3) := by decide +kernel
theorem dX11_count_96 : decode cX11_count 96 = .ok (.getfield 267, 3) := by decide +kernel
theorem dX11_count_99 : decode cX11_count 99 = .ok (.ireturn, 1) := by decide +kernel
theorem dX11_count_100 : decode cX11_count 100 = .ok (.aload_n 0, 1) := by decide +kernel
theorem dX11_count_101 : decode cX11_count 101 = .ok (.getfield 64, 3) := by decide +kernel
theorem dX11_count_104 : decode cX11_count 104 = .ok (.getfield 168, 3) := by decide +kernel
theorem dX11_count_107 : decode cX11_count 107 = .ok (.ireturn, 1) := by decide +kernel
theorem dX11_count_108 : decode cX11_count 108 = .ok (.aload_n 0, 1) := by decide +kernel
theorem dX11_count_109 : decode cX11_count 109 = .ok (.getfield 64, 3) := by decide +kernel
theorem dX11_count_112 : decode cX11_count 112 = .ok (.getfield 161, 3) := by decide +kernel
theorem dX11_count_115 : decode cX11_count 115 = .ok (.ireturn, 1) := by decide +kernel
theorem dX11_count_116 : decode cX11_count 116 = .ok (.aload_n 0, 1) := by decide +kernel
theorem dX11_count_117 : decode cX11_count 117 = .ok (.getfield 64, 3) := by decide +kernel
theorem dX11_count_120 : decode cX11_count 120 = .ok (.getfield 255, 3) := by decide +kernel
theorem dX11_count_123 : decode cX11_count 123 = .ok (.ireturn, 1) := by decide +kernel
theorem dX11_count_124 : decode cX11_count 124 = .ok (.aload_n 0, 1) := by decide +kernel
theorem dX11_count_125 : decode cX11_count 125 = .ok (.getfield 64, 3) := by decide +kernel
theorem dX11_count_128 : decode cX11_count 128 = .ok (.getfield 158, 3) := by decide +kernel
theorem dX11_count_131 : decode cX11_count 131 = .ok (.ireturn, 1) := by decide +kernel
theorem dX11_count_132 : decode cX11_count 132 = .ok (.aload_n 0, 1) := by decide +kernel
theorem dX11_count_133 : decode cX11_count 133 = .ok (.getfield 64, 3) := by decide +kernel
theorem dX11_count_136 : decode cX11_count 136 = .ok (.getfield 182, 3) := by decide +kernel
theorem dX11_count_139 : decode cX11_count 139 = .ok (.ireturn, 1) := by decide +kernel
theorem dX11_count_140 : decode cX11_count 140 = .ok (.aload_n 0, 1) := by decide +kernel
theorem dX11_count_141 : decode cX11_count 141 = .ok (.getfield 64, 3) := by decide +kernel
theorem dX11_count_144 : decode cX11_count 144 = .ok (.getfield 282, 3) := by decide +kernel
theorem dX11_count_147 : decode cX11_count 147 = .ok (.ireturn, 1) := by decide +kernel
theorem dX11_count_148 : decode cX11_count 148 = .ok (.aload_n 0, 1) := by decide +kernel
theorem dX11_count_149 : decode cX11_count 149 = .ok (.getfield 64, 3) := by decide +kernel
theorem dX11_count_152 : decode cX11_count 152 = .ok (.getfield 291, 3) := by decide +kernel
theorem dX11_count_155 : decode cX11_count 155 = .ok (.ireturn, 1) := by decide +kernel
theorem dX11_count_156 : decode cX11_count 156 = .ok (.aload_n 0, 1) := by decide +kernel
theorem dX11_count_157 : decode cX11_count 157 = .ok (.getfield 91, 3) := by decide +kernel
theorem dX11_count_160 : decode cX11_count 160 = .ok (.ireturn, 1) := by decide +kernel
theorem dX11_count_161 : decode cX11_count 161 = .ok (.aload_n 0, 1) := by decide +kernel
theorem dX11_count_162 : decode cX11_count 162 = .ok (.getfield 41, 3) := by decide +kernel
theorem dX11_count_165 : decode cX11_count 165 = .ok (.getfield 80, 3) := by decide +kernel
theorem dX11_count_168 : decode cX11_count 168 = .ok (.ireturn, 1) := by decide +kernel
theorem dX11_count_169 : decode cX11_count 169 = .ok (.iconst (-1), 1) := by decide +kernel
theorem dX11_count_170 : decode cX11_count 170 = .ok (.ireturn, 1) := by decide +kernel
theorem dX11_isThing_0 : decode cX11_isThing 0 = .ok (.iload_n 1, 1) := by decide +kernel
theorem dX11_isThing_1 : decode cX11_isThing 1 = .ok (.ifCond .lt 18, 3) := by decide +kernel
theorem dX11_isThing_4 : decode cX11_isThing 4 = .ok (.iload_n 1, 1) := by decide +kernel
theorem dX11_isThing_5 : decode cX11_isThing 5 = .ok (.aload_n 0, 1) := by decide +kernel
theorem dX11_isThing_6 : decode cX11_isThing 6 = .ok (.getfield 61, 3) := by decide +kernel
theorem dX11_isThing_9 : decode cX11_isThing 9 = .ok (.getfield 313, 3) := by decide +kernel
theorem dX11_isThing_12 : decode cX11_isThing 12 = .ok (.if_icmp .ge 7, 3) := by decide +kernel
theorem dX11_isThing_15 : decode cX11_isThing 15 = .ok (.iconst 1, 1) := by decide +kernel
theorem dX11_isThing_16 : decode cX11_isThing 16 = .ok (.goto 4, 3) := by decide +kernel
theorem dX11_isThing_19 : decode cX11_isThing 19 = .ok (.iconst 0, 1) := by decide +kernel
theorem dX11_isThing_20 : decode cX11_isThing 20 = .ok (.ireturn, 1) := by decide +kernel
theorem dX11_isPoured_0 : decode cX11_isPoured 0 = .ok (.aload_n 0, 1) := by decide +kernel
theorem dX11_isPoured_1 : decode cX11_isPoured 1 = .ok (.iload_n 1, 1) := by decide +kernel
theorem dX11_isPoured_2 : decode cX11_isPoured 2 = .ok (.invokevirtual 109, 3) := by decide +kernel
theorem dX11_isPoured_5 : decode cX11_isPoured 5 = .ok (.ifCond .eq 23, 3) := by decide +kernel
theorem dX11_isPoured_8 : decode cX11_isPoured 8 = .ok (.aload_n 0, 1) := by decide +kernel
theorem dX11_isPoured_9 : decode cX11_isPoured 9 = .ok (.getfield 61, 3) := by decide +kernel
theorem dX11_isPoured_12 : decode cX11_isPoured 12 = .ok (.getfield 113, 3) := by decide +kernel
theorem dX11_isPoured_15 : decode cX11_isPoured 15 = .ok (.iload_n 1, 1) := by decide +kernel
theorem dX11_isPoured_16 : decode cX11_isPoured 16 = .ok (.aaload, 1) := by decide +kernel
theorem dX11_isPoured_17 : decode cX11_isPoured 17 = .ok (.getfield 117, 3) := by decide +kernel
theorem dX11_isPoured_20 : decode cX11_isPoured 20 = .ok (.iconst 2, 1) := by decide +kernel
theorem dX11_isPoured_21 : decode cX11_isPoured 21 = .ok (.if_icmp .eq 7, 3) := by decide +kernel
theorem dX11_isPoured_24 : decode cX11_isPoured 24 = .ok (.iconst 1, 1) := by decide +kernel
theorem dX11_isPoured_25 : decode cX11_isPoured 25 = .ok (.goto 4, 3) := by decide +kernel
theorem dX11_isPoured_28 : decode cX11_isPoured 28 = .ok (.iconst 0, 1) := by decide +kernel
theorem dX11_isPoured_29 : decode cX11_isPoured 29 = .ok (.ireturn, 1) := by decide +kernel
theorem dX11_isBuyer_0 : decode cX11_isBuyer 0 = .ok (.iload_n 1, 1) := by decide +kernel
theorem dX11_isBuyer_1 : decode cX11_isBuyer 1 = .ok (.ifCond .lt 18, 3) := by decide +kernel
theorem dX11_isBuyer_4 : decode cX11_isBuyer 4 = .ok (.iload_n 1, 1) := by decide +kernel
theorem dX11_isBuyer_5 : decode cX11_isBuyer 5 = .ok (.aload_n 0, 1) := by decide +kernel
theorem dX11_isBuyer_6 : decode cX11_isBuyer 6 = .ok (.getfield 61, 3) := by decide +kernel
theorem dX11_isBuyer_9 : decode cX11_isBuyer 9 = .ok (.getfield 229, 3) := by decide +kernel
theorem dX11_isBuyer_12 : decode cX11_isBuyer 12 = .ok (.if_icmp .ge 7, 3) := by decide +kernel
theorem dX11_isBuyer_15 : decode cX11_isBuyer 15 = .ok (.iconst 1, 1) := by decide +kernel
theorem dX11_isBuyer_16 : decode cX11_isBuyer 16 = .ok (.goto 4, 3) := by decide +kernel
theorem dX11_isBuyer_19 : decode cX11_isBuyer 19 = .ok (.iconst 0, 1) := by decide +kernel
theorem dX11_isBuyer_20 : decode cX11_isBuyer 20 = .ok (.ireturn, 1) := by decide +kernel
theorem dX11_isSome_0 : decode cX11_isSome 0 = .ok (.iload_n 1, 1) := by decide +kernel
theorem dX11_isSome_1 : decode cX11_isSome 1 = .ok (.ifCond .le 20, 3) := by decide +kernel
theorem dX11_isSome_4 : decode cX11_isSome 4 = .ok (.iload_n 1, 1) := by decide +kernel
theorem dX11_isSome_5 : decode cX11_isSome 5 = .ok (.iconst 1, 1) := by decide +kernel
theorem dX11_isSome_6 : decode cX11_isSome 6 = .ok (.aload_n 0, 1) := by decide +kernel
theorem dX11_isSome_7 : decode cX11_isSome 7 = .ok (.getfield 61, 3) := by decide +kernel
theorem dX11_isSome_10 : decode cX11_isSome 10 = .ok (.getfield 229, 3) := by decide +kernel
theorem dX11_isSome_13 : decode cX11_isSome 13 = .ok (.ishl, 1) := by decide +kernel
theorem dX11_isSome_14 : decode cX11_isSome 14 = .ok (.if_icmp .ge 7, 3) := by decide +kernel
theorem dX11_isSome_17 : decode cX11_isSome 17 = .ok (.iconst 1, 1) := by decide +kernel
theorem dX11_isSome_18 : decode cX11_isSome 18 = .ok (.goto 4, 3) := by decide +kernel
theorem dX11_isSome_21 : decode cX11_isSome 21 = .ok (.iconst 0, 1) := by decide +kernel
theorem dX11_isSome_22 : decode cX11_isSome 22 = .ok (.ireturn, 1) := by decide +kernel
theorem dX11_changeByHand_0 : decode cX11_changeByHand 0 = .ok (.aload_n 0, 1) := by decide +kernel
theorem dX11_changeByHand_1 : decode cX11_changeByHand 1 = .ok (.getfield 64, 3) := by decide +kernel
theorem dX11_changeByHand_4 : decode cX11_changeByHand 4 = .ok (.aload_n 0, 1) := by decide +kernel
theorem dX11_changeByHand_5 : decode cX11_changeByHand 5 = .ok (.getfield 61, 3) := by decide +kernel
theorem dX11_changeByHand_8 : decode cX11_changeByHand 8 = .ok (.iload_n 1, 1) := by decide +kernel
theorem dX11_changeByHand_9 : decode cX11_changeByHand 9 = .ok (.iload_n 2, 1) := by decide +kernel
theorem dX11_changeByHand_10 : decode cX11_changeByHand 10 = .ok (.invokevirtual 316, 3) := by decide +kernel
theorem dX11_changeByHand_13 : decode cX11_changeByHand 13 = .ok (.istore 4, 2) := by decide +kernel
theorem dX11_changeByHand_15 : decode cX11_changeByHand 15 = .ok (.aload_n 0, 1) := by decide +kernel
theorem dX11_changeByHand_16 : decode cX11_changeByHand 16 = .ok (.getfield 64, 3) := by decide +kernel
theorem dX11_changeByHand_19 : decode cX11_changeByHand 19 = .ok (.aload_n 0, 1) := by decide +kernel
theorem dX11_changeByHand_20 : decode cX11_changeByHand 20 = .ok (.getfield 61, 3) := by decide +kernel
theorem dX11_changeByHand_23 : decode cX11_changeByHand 23 = .ok (.iload_n 1, 1) := by decide +kernel
theorem dX11_changeByHand_24 : decode cX11_changeByHand 24 = .ok (.iload_n 2, 1) := by decide +kernel
theorem dX11_changeByHand_25 : decode cX11_changeByHand 25 = .ok (.iload_n 3, 1) := by decide +kernel
theorem dX11_changeByHand_26 : decode cX11_changeByHand 26 = .ok (.invokevirtual 178, 3) := by decide +kernel
theorem dX11_changeByHand_29 : decode cX11_changeByHand 29 = .ok (.ifCond .ne 5, 3) := by decide +kernel
theorem dX11_changeByHand_32 : decode cX11_changeByHand 32 = .ok (.iconst 0, 1) := by decide +kernel
theorem dX11_changeByHand_33 : decode cX11_changeByHand 33 = .ok (.ireturn, 1) := by decide +kernel
theorem dX11_changeByHand_34 : decode cX11_changeByHand 34 = .ok (.aload_n 0, 1) := by decide +kernel
theorem dX11_changeByHand_35 : decode cX11_changeByHand 35 = .ok (.getfield 91, 3) := by decide +kernel
theorem dX11_changeByHand_38 : decode cX11_changeByHand 38 = .ok (.bipush 16, 2) := by decide +kernel
theorem dX11_changeByHand_40 : decode cX11_changeByHand 40 = .ok (.if_icmp .lt 29, 3) := by decide +kernel
theorem dX11_changeByHand_43 : decode cX11_changeByHand 43 = .ok (.aload_n 0, 1) := by decide +kernel
theorem dX11_changeByHand_44 : decode cX11_changeByHand 44 = .ok (.getfield 27, 3) := by decide +kernel
theorem dX11_changeByHand_47 : decode cX11_changeByHand 47 = .ok (.iconst 3, 1) := by decide +kernel
theorem dX11_changeByHand_48 : decode cX11_changeByHand 48 = .ok (.aload_n 0, 1) := by decide +kernel
theorem dX11_changeByHand_49 : decode cX11_changeByHand 49 = .ok (.getfield 27, 3) := by decide +kernel
theorem dX11_changeByHand_52 : decode cX11_changeByHand 52 = .ok (.iconst 0, 1) := by decide +kernel
theorem dX11_changeByHand_53 : decode cX11_changeByHand 53 = .ok (.aload_n 0, 1) := by decide +kernel
theorem dX11_changeByHand_54 : decode cX11_changeByHand 54 = .ok (.getfield 27, 3) := by decide +kernel
theorem dX11_changeByHand_57 : decode cX11_changeByHand 57 = .ok (.arraylength, 1) := by decide +kernel
theorem dX11_changeByHand_58 : decode cX11_changeByHand 58 = .ok (.iconst 3, 1) := by decide +kernel
theorem dX11_changeByHand_59 : decode cX11_changeByHand 59 = .ok (.isub, 1) := by decide +kernel
theorem dX11_changeByHand_60 : decode cX11_changeByHand 60 = .ok (.invokestatic 320, 3) := by decide +kernel
theorem dX11_changeByHand_63 : decode cX11_changeByHand 63 = .ok (.aload_n 0, 1) := by decide +kernel
theorem dX11_changeByHand_64 : decode cX11_changeByHand 64 = .ok (.bipush 15, 2) := by decide +kernel
theorem dX11_changeByHand_66 : decode cX11_changeByHand 66 = .ok (.putfield 91, 3) := by decide +kernel
theorem dX11_changeByHand_69 : decode cX11_changeByHand 69 = .ok (.aload_n 0, 1) := by decide +kernel
theorem dX11_changeByHand_70 : decode cX11_changeByHand 70 = .ok (.getfield 91, 3) := by decide +kernel
theorem dX11_changeByHand_73 : decode cX11_changeByHand 73 = .ok (.iconst 3, 1) := by decide +kernel
theorem dX11_changeByHand_74 : decode cX11_changeByHand 74 = .ok (.imul, 1) := by decide +kernel
theorem dX11_changeByHand_75 : decode cX11_changeByHand 75 = .ok (.istore 5, 2) := by decide +kernel
theorem dX11_changeByHand_77 : decode cX11_changeByHand 77 = .ok (.aload_n 0, 1) := by decide +kernel
theorem dX11_changeByHand_78 : decode cX11_changeByHand 78 = .ok (.getfield 27, 3) := by decide +kernel
theorem dX11_changeByHand_81 : decode cX11_changeByHand 81 = .ok (.iload 5, 2) := by decide +kernel
theorem dX11_changeByHand_83 : decode cX11_changeByHand 83 = .ok (.iload_n 1, 1) := by decide +kernel
theorem dX11_changeByHand_84 : decode cX11_changeByHand 84 = .ok (.iastore, 1) := by decide +kernel
theorem dX11_changeByHand_85 : decode cX11_changeByHand 85 = .ok (.aload_n 0, 1) := by decide +kernel
theorem dX11_changeByHand_86 : decode cX11_changeByHand 86 = .ok (.getfield 27, 3) := by decide +kernel
theorem dX11_changeByHand_89 : decode cX11_changeByHand 89 = .ok (.iload 5, 2) := by decide +kernel
theorem dX11_changeByHand_91 : decode cX11_changeByHand 91 = .ok (.iconst 1, 1) := by decide +kernel
theorem dX11_changeByHand_92 : decode cX11_changeByHand 92 = .ok (.iadd, 1) := by decide +kernel
theorem dX11_changeByHand_93 : decode cX11_changeByHand 93 = .ok (.iload_n 2, 1) := by decide +kernel
theorem dX11_changeByHand_94 : decode cX11_changeByHand 94 = .ok (.iastore, 1) := by decide +kernel
theorem dX11_changeByHand_95 : decode cX11_changeByHand 95 = .ok (.aload_n 0, 1) := by decide +kernel
theorem dX11_changeByHand_96 : decode cX11_changeByHand 96 = .ok (.getfield 27, 3) := by decide +kernel
theorem dX11_changeByHand_99 : decode cX11_changeByHand 99 = .ok (.iload 5, 2) := by decide +kernel
theorem dX11_changeByHand_101 : decode cX11_changeByHand 101 = .ok (.iconst 2, 1) := by decide +kernel
theorem dX11_changeByHand_102 : decode cX11_changeByHand 102 = .ok (.iadd, 1) := by decide +kernel
theorem dX11_changeByHand_103 : decode cX11_changeByHand 103 = .ok (.iload 4, 2) := by decide +kernel
theorem dX11_changeByHand_105 : decode cX11_changeByHand 105 = .ok (.iastore, 1) := by decide +kernel
theorem dX11_changeByHand_106 : decode cX11_changeByHand 106 = .ok (.aload_n 0, 1) := by decide +kernel
theorem dX11_changeByHand_107 : decode cX11_changeByHand 107 = .ok (.dup, 1) := by decide +kernel
theorem dX11_changeByHand_108 : decode cX11_changeByHand 108 = .ok (.getfield 91, 3) := by decide +kernel
theorem dX11_changeByHand_111 : decode cX11_changeByHand 111 = .ok (.iconst 1, 1) := by decide +kernel
theorem dX11_changeByHand_112 : decode cX11_changeByHand 112 = .ok (.iadd, 1) := by decide +kernel
theorem dX11_changeByHand_113 : decode cX11_changeByHand 113 = .ok (.putfield 91, 3) := by decide +kernel
theorem dX11_changeByHand_116 : decode cX11_changeByHand 116 = .ok (.iconst 1, 1) := by decide +kernel
theorem dX11_changeByHand_117 : decode cX11_changeByHand 117 = .ok (.ireturn, 1) := by decide +kernel
theorem dX11_playNow_0 : decode cX11_playNow 0 = .ok (.aload_n 0, 1) := by decide +kernel
theorem dX11_playNow_1 : decode cX11_playNow 1 = .ok (.getfield 72, 3) := by decide +kernel
theorem dX11_playNow_4 : decode cX11_playNow 4 = .ok (.aload_n 0, 1) := by decide +kernel
theorem dX11_playNow_5 : decode cX11_playNow 5 = .ok (.getfield 61, 3) := by decide +kernel
theorem dX11_playNow_8 : decode cX11_playNow 8 = .ok (.aload_n 0, 1) := by decide +kernel
theorem dX11_playNow_9 : decode cX11_playNow 9 = .ok (.getfield 64, 3) := by decide +kernel
theorem dX11_playNow_12 : decode cX11_playNow 12 = .ok (.invokevirtual 258, 3) := by decide +kernel
theorem dX11_playNow_15 : decode cX11_playNow 15 = .ok (.aload_n 0, 1) := by decide +kernel
theorem dX11_playNow_16 : decode cX11_playNow 16 = .ok (.getfield 72, 3) := by decide +kernel
theorem dX11_playNow_19 : decode cX11_playNow 19 = .ok (.invokevirtual 264, 3) := by decide +kernel
theorem dX11_playNow_22 : decode cX11_playNow 22 = .ok (.return_, 1) := by decide +kernel
theorem dX11_playTrial_0 : decode cX11_playTrial 0 = .ok (.aload_n 0, 1) := by decide +kernel
theorem dX11_playTrial_1 : decode cX11_playTrial 1 = .ok (.getfield 72, 3) := by decide +kernel
theorem dX11_playTrial_4 : decode cX11_playTrial 4 = .ok (.aload_n 0, 1) := by decide +kernel
theorem dX11_playTrial_5 : decode cX11_playTrial 5 = .ok (.getfield 61, 3) := by decide +kernel
theorem dX11_playTrial_8 : decode cX11_playTrial 8 = .ok (.aload_n 0, 1) := by decide +kernel
theorem dX11_playTrial_9 : decode cX11_playTrial 9 = .ok (.getfield 19, 3) := by decide +kernel
theorem dX11_playTrial_12 : decode cX11_playTrial 12 = .ok (.invokevirtual 258, 3) := by decide +kernel
theorem dX11_playTrial_15 : decode cX11_playTrial 15 = .ok (.aload_n 0, 1) := by decide +kernel
theorem dX11_playTrial_16 : decode cX11_playTrial 16 = .ok (.getfield 72, 3) := by decide +kernel
theorem dX11_playTrial_19 : decode cX11_playTrial 19 = .ok (.invokevirtual 264, 3) := by decide +kernel
theorem dX11_playTrial_22 : decode cX11_playTrial 22 = .ok (.return_, 1) := by decide +kernel
theorem dX11_weightOf_0 : decode cX11_weightOf 0 = .ok (.lconst 1, 1) := by decide +kernel
theorem dX11_weightOf_1 : decode cX11_weightOf 1 = .ok (.lstore_n 3, 1) := by decide +kernel
theorem dX11_weightOf_2 : decode cX11_weightOf 2 = .ok (.iconst 0, 1) := by decide +kernel
theorem dX11_weightOf_3 : decode cX11_weightOf 3 = .ok (.istore 5, 2) := by decide +kernel
theorem dX11_weightOf_5 : decode cX11_weightOf 5 = .ok (.iload 5, 2) := by decide +kernel
theorem dX11_weightOf_7 : decode cX11_weightOf 7 = .ok (.aload_n 0, 1) := by decide +kernel
theorem dX11_weightOf_8 : decode cX11_weightOf 8 = .ok (.getfield 61, 3) := by decide +kernel
theorem dX11_weightOf_11 : decode cX11_weightOf 11 = .ok (.getfield 229, 3) := by decide +kernel
theorem dX11_weightOf_14 : decode cX11_weightOf 14 = .ok (.if_icmp .ge 54, 3) := by decide +kernel
theorem dX11_weightOf_17 : decode cX11_weightOf 17 = .ok (.iload 5, 2) := by decide +kernel
theorem dX11_weightOf_19 : decode cX11_weightOf 19 = .ok (.iload_n 2, 1) := by decide +kernel
theorem dX11_weightOf_20 : decode cX11_weightOf 20 = .ok (.if_icmp .eq 42, 3) := by decide +kernel
theorem dX11_weightOf_23 : decode cX11_weightOf 23 = .ok (.aload_n 0, 1) := by decide +kernel
theorem dX11_weightOf_24 : decode cX11_weightOf 24 = .ok (.getfield 61, 3) := by decide +kernel
theorem dX11_weightOf_27 : decode cX11_weightOf 27 = .ok (.getfield 137, 3) := by decide +kernel
theorem dX11_weightOf_30 : decode cX11_weightOf 30 = .ok (.iload 5, 2) := by decide +kernel
theorem dX11_weightOf_32 : decode cX11_weightOf 32 = .ok (.aaload, 1) := by decide +kernel
theorem dX11_weightOf_33 : decode cX11_weightOf 33 = .ok (.getfield 149, 3) := by decide +kernel
theorem dX11_weightOf_36 : decode cX11_weightOf 36 = .ok (.istore 6, 2) := by decide +kernel
theorem dX11_weightOf_38 : decode cX11_weightOf 38 = .ok (.lload_n 3, 1) := by decide +kernel
theorem dX11_weightOf_39 : decode cX11_weightOf 39 = .ok (.iload_n 1, 1) := by decide +kernel
theorem dX11_weightOf_40 : decode cX11_weightOf 40 = .ok (.iload 5, 2) := by decide +kernel
theorem dX11_weightOf_42 : decode cX11_weightOf 42 = .ok (.ishr, 1) := by decide +kernel
theorem dX11_weightOf_43 : decode cX11_weightOf 43 = .ok (.iconst 1, 1) := by decide +kernel
theorem dX11_weightOf_44 : decode cX11_weightOf 44 = .ok (.iand, 1) := by decide +kernel
theorem dX11_weightOf_45 : decode cX11_weightOf 45 = .ok (.ifCond .eq 9, 3) := by decide +kernel
theorem dX11_weightOf_48 : decode cX11_weightOf 48 = .ok (.iload 6, 2) := by decide +kernel
theorem dX11_weightOf_50 : decode cX11_weightOf 50 = .ok (.i2l, 1) := by decide +kernel
theorem dX11_weightOf_51 : decode cX11_weightOf 51 = .ok (.goto 9, 3) := by decide +kernel
theorem dX11_weightOf_54 : decode cX11_weightOf 54 = .ok (.bipush 10, 2) := by decide +kernel
theorem dX11_weightOf_56 : decode cX11_weightOf 56 = .ok (.iload 6, 2) := by decide +kernel
theorem dX11_weightOf_58 : decode cX11_weightOf 58 = .ok (.isub, 1) := by decide +kernel
theorem dX11_weightOf_59 : decode cX11_weightOf 59 = .ok (.i2l, 1) := by decide +kernel
theorem dX11_weightOf_60 : decode cX11_weightOf 60 = .ok (.lmul, 1) := by decide +kernel
theorem dX11_weightOf_61 : decode cX11_weightOf 61 = .ok (.lstore_n 3, 1) := by decide +kernel
theorem dX11_weightOf_62 : decode cX11_weightOf 62 = .ok (.iinc 5 1, 3) := by decide +kernel
theorem dX11_weightOf_65 : decode cX11_weightOf 65 = .ok (.goto (-60), 3) := by decide +kernel
theorem dX11_weightOf_68 : decode cX11_weightOf 68 = .ok (.lload_n 3, 1) := by decide +kernel
theorem dX11_weightOf_69 : decode cX11_weightOf 69 = .ok (.lreturn, 1) := by decide +kernel
theorem dX11_fillGains_0 : decode cX11_fillGains 0 = .ok (.aload_n 0, 1) := by decide +kernel
theorem dX11_fillGains_1 : decode cX11_fillGains 1 = .ok (.getfield 19, 3) := by decide +kernel
theorem dX11_fillGains_4 : decode cX11_fillGains 4 = .ok (.aload_n 0, 1) := by decide +kernel
theorem dX11_fillGains_5 : decode cX11_fillGains 5 = .ok (.getfield 64, 3) := by decide +kernel
theorem dX11_fillGains_8 : decode cX11_fillGains 8 = .ok (.invokevirtual 225, 3) := by decide +kernel
theorem dX11_fillGains_11 : decode cX11_fillGains 11 = .ok (.iconst 0, 1) := by decide +kernel
theorem dX11_fillGains_12 : decode cX11_fillGains 12 = .ok (.istore_n 2, 1) := by decide +kernel
theorem dX11_fillGains_13 : decode cX11_fillGains 13 = .ok (.iload_n 2, 1) := by decide +kernel
theorem dX11_fillGains_14 : decode cX11_fillGains 14 = .ok (.iload_n 1, 1) := by decide +kernel
theorem dX11_fillGains_15 : decode cX11_fillGains 15 = .ok (.if_icmp .gt 109, 3) := by decide +kernel
theorem dX11_fillGains_18 : decode cX11_fillGains 18 = .ok (.iload_n 2, 1) := by decide +kernel
theorem dX11_fillGains_19 : decode cX11_fillGains 19 = .ok (.iload_n 1, 1) := by decide +kernel
theorem dX11_fillGains_20 : decode cX11_fillGains 20 = .ok (.iconst (-1), 1) := by decide +kernel
theorem dX11_fillGains_21 : decode cX11_fillGains 21 = .ok (.ixor, 1) := by decide +kernel
theorem dX11_fillGains_22 : decode cX11_fillGains 22 = .ok (.iand, 1) := by decide +kernel
theorem dX11_fillGains_23 : decode cX11_fillGains 23 = .ok (.ifCond .ne 95, 3) := by decide +kernel
theorem dX11_fillGains_26 : decode cX11_fillGains 26 = .ok (.aload_n 0, 1) := by decide +kernel
theorem dX11_fillGains_27 : decode cX11_fillGains 27 = .ok (.getfield 19, 3) := by decide +kernel
theorem dX11_fillGains_30 : decode cX11_fillGains 30 = .ok (.aload_n 0, 1) := by decide +kernel
theorem dX11_fillGains_31 : decode cX11_fillGains 31 = .ok (.getfield 64, 3) := by decide +kernel
theorem dX11_fillGains_34 : decode cX11_fillGains 34 = .ok (.getfield 158, 3) := by decide +kernel
theorem dX11_fillGains_37 : decode cX11_fillGains 37 = .ok (.iload_n 1, 1) := by decide +kernel
theorem dX11_fillGains_38 : decode cX11_fillGains 38 = .ok (.iconst (-1), 1) := by decide +kernel
theorem dX11_fillGains_39 : decode cX11_fillGains 39 = .ok (.ixor, 1) := by decide +kernel
theorem dX11_fillGains_40 : decode cX11_fillGains 40 = .ok (.iand, 1) := by decide +kernel
theorem dX11_fillGains_41 : decode cX11_fillGains 41 = .ok (.iload_n 2, 1) := by decide +kernel
theorem dX11_fillGains_42 : decode cX11_fillGains 42 = .ok (.ior, 1) := by decide +kernel
theorem dX11_fillGains_43 : decode cX11_fillGains 43 = .ok (.putfield 158, 3) := by decide +kernel
theorem dX11_fillGains_46 : decode cX11_fillGains 46 = .ok (.aload_n 0, 1) := by decide +kernel
theorem dX11_fillGains_47 : decode cX11_fillGains 47 = .ok (.invokevirtual 184, 3) := by decide +kernel
theorem dX11_fillGains_50 : decode cX11_fillGains 50 = .ok (.iconst 0, 1) := by decide +kernel
theorem dX11_fillGains_51 : decode cX11_fillGains 51 = .ok (.istore_n 3, 1) := by decide +kernel
theorem dX11_fillGains_52 : decode cX11_fillGains 52 = .ok (.iload_n 3, 1) := by decide +kernel
theorem dX11_fillGains_53 : decode cX11_fillGains 53 = .ok (.aload_n 0, 1) := by decide +kernel
theorem dX11_fillGains_54 : decode cX11_fillGains 54 = .ok (.getfield 61, 3) := by decide +kernel
theorem dX11_fillGains_57 : decode cX11_fillGains 57 = .ok (.getfield 229, 3) := by decide +kernel
theorem dX11_fillGains_60 : decode cX11_fillGains 60 = .ok (.if_icmp .ge 58, 3) := by decide +kernel
theorem dX11_fillGains_63 : decode cX11_fillGains 63 = .ok (.aload_n 0, 1) := by decide +kernel
theorem dX11_fillGains_64 : decode cX11_fillGains 64 = .ok (.getfield 31, 3) := by decide +kernel
theorem dX11_fillGains_67 : decode cX11_fillGains 67 = .ok (.iload_n 2, 1) := by decide +kernel
theorem dX11_fillGains_68 : decode cX11_fillGains 68 = .ok (.bipush 6, 2) := by decide +kernel
theorem dX11_fillGains_70 : decode cX11_fillGains 70 = .ok (.imul, 1) := by decide +kernel
theorem dX11_fillGains_71 : decode cX11_fillGains 71 = .ok (.iload_n 3, 1) := by decide +kernel
theorem dX11_fillGains_72 : decode cX11_fillGains 72 = .ok (.iadd, 1) := by decide +kernel
theorem dX11_fillGains_73 : decode cX11_fillGains 73 = .ok (.bipush 10, 2) := by decide +kernel
theorem dX11_fillGains_75 : decode cX11_fillGains 75 = .ok (.aload_n 0, 1) := by decide +kernel
theorem dX11_fillGains_76 : decode cX11_fillGains 76 = .ok (.getfield 72, 3) := by decide +kernel
theorem dX11_fillGains_79 : decode cX11_fillGains 79 = .ok (.getfield 203, 3) := by decide +kernel
theorem dX11_fillGains_82 : decode cX11_fillGains 82 = .ok (.iload_n 3, 1) := by decide +kernel
theorem dX11_fillGains_83 : decode cX11_fillGains 83 = .ok (.iaload, 1) := by decide +kernel
theorem dX11_fillGains_84 : decode cX11_fillGains 84 = .ok (.invokestatic 215, 3) := by decide +kernel
theorem dX11_fillGains_87 : decode cX11_fillGains 87 = .ok (.imul, 1) := by decide +kernel
theorem dX11_fillGains_88 : decode cX11_fillGains 88 = .ok (.iconst 3, 1) := by decide +kernel
theorem dX11_fillGains_89 : decode cX11_fillGains 89 = .ok (.iload_n 2, 1) := by decide +kernel
theorem dX11_fillGains_90 : decode cX11_fillGains 90 = .ok (.iload_n 3, 1) := by decide +kernel
theorem dX11_fillGains_91 : decode cX11_fillGains 91 = .ok (.ishr, 1) := by decide +kernel
theorem dX11_fillGains_92 : decode cX11_fillGains 92 = .ok (.iconst 1, 1) := by decide +kernel
theorem dX11_fillGains_93 : decode cX11_fillGains 93 = .ok (.iand, 1) := by decide +kernel
theorem dX11_fillGains_94 : decode cX11_fillGains 94 = .ok (.imul, 1) := by decide +kernel
theorem dX11_fillGains_95 : decode cX11_fillGains 95 = .ok (.isub, 1) := by decide +kernel
theorem dX11_fillGains_96 : decode cX11_fillGains 96 = .ok (.bipush 50, 2) := by decide +kernel
theorem dX11_fillGains_98 : decode cX11_fillGains 98 = .ok (.aload_n 0, 1) := by decide +kernel
theorem dX11_fillGains_99 : decode cX11_fillGains 99 = .ok (.getfield 72, 3) := by decide +kernel
theorem dX11_fillGains_102 : decode cX11_fillGains 102 = .ok (.getfield 209, 3) := by decide +kernel
theorem dX11_fillGains_105 : decode cX11_fillGains 105 = .ok (.iload_n 3, 1) := by decide +kernel
theorem dX11_fillGains_106 : decode cX11_fillGains 106 = .ok (.ishr, 1) := by decide +kernel
theorem dX11_fillGains_107 : decode cX11_fillGains 107 = .ok (.iconst 1, 1) := by decide +kernel
theorem dX11_fillGains_108 : decode cX11_fillGains 108 = .ok (.iand, 1) := by decide +kernel
theorem dX11_fillGains_109 : decode cX11_fillGains 109 = .ok (.imul, 1) := by decide +kernel
theorem dX11_fillGains_110 : decode cX11_fillGains 110 = .ok (.isub, 1) := by decide +kernel
theorem dX11_fillGains_111 : decode cX11_fillGains 111 = .ok (.iastore, 1) := by decide +kernel
theorem dX11_fillGains_112 : decode cX11_fillGains 112 = .ok (.iinc 3 1, 3) := by decide +kernel
theorem dX11_fillGains_115 : decode cX11_fillGains 115 = .ok (.goto (-63), 3) := by decide +kernel
theorem dX11_fillGains_118 : decode cX11_fillGains 118 = .ok (.iinc 2 1, 3) := by decide +kernel
theorem dX11_fillGains_121 : decode cX11_fillGains 121 = .ok (.goto (-108), 3) := by decide +kernel
theorem dX11_fillGains_124 : decode cX11_fillGains 124 = .ok (.return_, 1) := by decide +kernel
theorem dX11_isAtRest_0 : decode cX11_isAtRest 0 = .ok (.iconst 0, 1) := by decide +kernel
theorem dX11_isAtRest_1 : decode cX11_isAtRest 1 = .ok (.istore_n 3, 1) := by decide +kernel
theorem dX11_isAtRest_2 : decode cX11_isAtRest 2 = .ok (.iload_n 3, 1) := by decide +kernel
theorem dX11_isAtRest_3 : decode cX11_isAtRest 3 = .ok (.aload_n 0, 1) := by decide +kernel
theorem dX11_isAtRest_4 : decode cX11_isAtRest 4 = .ok (.getfield 61, 3) := by decide +kernel
theorem dX11_isAtRest_7 : decode cX11_isAtRest 7 = .ok (.getfield 229, 3) := by decide +kernel
theorem dX11_isAtRest_10 : decode cX11_isAtRest 10 = .ok (.if_icmp .ge 52, 3) := by decide +kernel
theorem dX11_isAtRest_13 : decode cX11_isAtRest 13 = .ok (.iload_n 2, 1) := by decide +kernel
theorem dX11_isAtRest_14 : decode cX11_isAtRest 14 = .ok (.iconst 1, 1) := by decide +kernel
theorem dX11_isAtRest_15 : decode cX11_isAtRest 15 = .ok (.iload_n 3, 1) := by decide +kernel
theorem dX11_isAtRest_16 : decode cX11_isAtRest 16 = .ok (.ishl, 1) := by decide +kernel
theorem dX11_isAtRest_17 : decode cX11_isAtRest 17 = .ok (.ixor, 1) := by decide +kernel
theorem dX11_isAtRest_18 : decode cX11_isAtRest 18 = .ok (.istore 4, 2) := by decide +kernel
theorem dX11_isAtRest_20 : decode cX11_isAtRest 20 = .ok (.iload_n 1, 1) := by decide +kernel
theorem dX11_isAtRest_21 : decode cX11_isAtRest 21 = .ok (.iload_n 3, 1) := by decide +kernel
theorem dX11_isAtRest_22 : decode cX11_isAtRest 22 = .ok (.ishr, 1) := by decide +kernel
theorem dX11_isAtRest_23 : decode cX11_isAtRest 23 = .ok (.iconst 1, 1) := by decide +kernel
theorem dX11_isAtRest_24 : decode cX11_isAtRest 24 = .ok (.iand, 1) := by decide +kernel
theorem dX11_isAtRest_25 : decode cX11_isAtRest 25 = .ok (.ifCond .eq 31, 3) := by decide +kernel
theorem dX11_isAtRest_28 : decode cX11_isAtRest 28 = .ok (.aload_n 0, 1) := by decide +kernel
theorem dX11_isAtRest_29 : decode cX11_isAtRest 29 = .ok (.getfield 31, 3) := by decide +kernel
theorem dX11_isAtRest_32 : decode cX11_isAtRest 32 = .ok (.iload 4, 2) := by decide +kernel
theorem dX11_isAtRest_34 : decode cX11_isAtRest 34 = .ok (.bipush 6, 2) := by decide +kernel
theorem dX11_isAtRest_36 : decode cX11_isAtRest 36 = .ok (.imul, 1) := by decide +kernel
theorem dX11_isAtRest_37 : decode cX11_isAtRest 37 = .ok (.iload_n 3, 1) := by decide +kernel
theorem dX11_isAtRest_38 : decode cX11_isAtRest 38 = .ok (.iadd, 1) := by decide +kernel
theorem dX11_isAtRest_39 : decode cX11_isAtRest 39 = .ok (.iaload, 1) := by decide +kernel
theorem dX11_isAtRest_40 : decode cX11_isAtRest 40 = .ok (.aload_n 0, 1) := by decide +kernel
theorem dX11_isAtRest_41 : decode cX11_isAtRest 41 = .ok (.getfield 31, 3) := by decide +kernel
theorem dX11_isAtRest_44 : decode cX11_isAtRest 44 = .ok (.iload_n 2, 1) := by decide +kernel
theorem dX11_isAtRest_45 : decode cX11_isAtRest 45 = .ok (.bipush 6, 2) := by decide +kernel
theorem dX11_isAtRest_47 : decode cX11_isAtRest 47 = .ok (.imul, 1) := by decide +kernel
theorem dX11_isAtRest_48 : decode cX11_isAtRest 48 = .ok (.iload_n 3, 1) := by decide +kernel
theorem dX11_isAtRest_49 : decode cX11_isAtRest 49 = .ok (.iadd, 1) := by decide +kernel
theorem dX11_isAtRest_50 : decode cX11_isAtRest 50 = .ok (.iaload, 1) := by decide +kernel
theorem dX11_isAtRest_51 : decode cX11_isAtRest 51 = .ok (.if_icmp .le 5, 3) := by decide +kernel
theorem dX11_isAtRest_54 : decode cX11_isAtRest 54 = .ok (.iconst 0, 1) := by decide +kernel
theorem dX11_isAtRest_55 : decode cX11_isAtRest 55 = .ok (.ireturn, 1) := by decide +kernel
theorem dX11_isAtRest_56 : decode cX11_isAtRest 56 = .ok (.iinc 3 1, 3) := by decide +kernel
theorem dX11_isAtRest_59 : decode cX11_isAtRest 59 = .ok (.goto (-57), 3) := by decide +kernel
theorem dX11_isAtRest_62 : decode cX11_isAtRest 62 = .ok (.iconst 1, 1) := by decide +kernel
theorem dX11_isAtRest_63 : decode cX11_isAtRest 63 = .ok (.ireturn, 1) := by decide +kernel
theorem dX11_errandSecond_0 : decode cX11_errandSecond 0 = .ok (.aload_n 0, 1) := by decide +kernel
theorem dX11_errandSecond_1 : decode cX11_errandSecond 1 = .ok (.getfield 19, 3) := by decide +kernel
theorem dX11_errandSecond_4 : decode cX11_errandSecond 4 = .ok (.aload_n 0, 1) := by decide +kernel
theorem dX11_errandSecond_5 : decode cX11_errandSecond 5 = .ok (.getfield 64, 3) := by decide +kernel
theorem dX11_errandSecond_8 : decode cX11_errandSecond 8 = .ok (.invokevirtual 225, 3) := by decide +kernel
theorem dX11_errandSecond_11 : decode cX11_errandSecond 11 = .ok (.aload_n 0, 1) := by decide +kernel
theorem dX11_errandSecond_12 : decode cX11_errandSecond 12 = .ok (.getfield 19, 3) := by decide +kernel
theorem dX11_errandSecond_15 : decode cX11_errandSecond 15 = .ok (.aload_n 0, 1) := by decide +kernel
theorem dX11_errandSecond_16 : decode cX11_errandSecond 16 = .ok (.getfield 64, 3) := by decide +kernel
theorem dX11_errandSecond_19 : decode cX11_errandSecond 19 = .ok (.getfield 158, 3) := by decide +kernel
theorem dX11_errandSecond_22 : decode cX11_errandSecond 22 = .ok (.iload_n 1, 1) := by decide +kernel
theorem dX11_errandSecond_23 : decode cX11_errandSecond 23 = .ok (.iconst (-1), 1) := by decide +kernel
theorem dX11_errandSecond_24 : decode cX11_errandSecond 24 = .ok (.ixor, 1) := by decide +kernel
theorem dX11_errandSecond_25 : decode cX11_errandSecond 25 = .ok (.iand, 1) := by decide +kernel
theorem dX11_errandSecond_26 : decode cX11_errandSecond 26 = .ok (.iconst 1, 1) := by decide +kernel
theorem dX11_errandSecond_27 : decode cX11_errandSecond 27 = .ok (.iload_n 2, 1) := by decide +kernel
theorem dX11_errandSecond_28 : decode cX11_errandSecond 28 = .ok (.ishl, 1) := by decide +kernel
theorem dX11_errandSecond_29 : decode cX11_errandSecond 29 = .ok (.ior, 1) := by decide +kernel
theorem dX11_errandSecond_30 : decode cX11_errandSecond 30 = .ok (.putfield 158, 3) := by decide +kernel
theorem dX11_errandSecond_33 : decode cX11_errandSecond 33 = .ok (.aload_n 0, 1) := by decide +kernel
theorem dX11_errandSecond_34 : decode cX11_errandSecond 34 = .ok (.getfield 72, 3) := by decide +kernel
theorem dX11_errandSecond_37 : decode cX11_errandSecond 37 = .ok (.aload_n 0, 1) := by decide +kernel
theorem dX11_errandSecond_38 : decode cX11_errandSecond 38 = .ok (.getfield 61, 3) := by decide +kernel
theorem dX11_errandSecond_41 : decode cX11_errandSecond 41 = .ok (.aload_n 0, 1) := by decide +kernel
theorem dX11_errandSecond_42 : decode cX11_errandSecond 42 = .ok (.getfield 19, 3) := by decide +kernel
theorem dX11_errandSecond_45 : decode cX11_errandSecond 45 = .ok (.invokevirtual 258, 3) := by decide +kernel
theorem dX11_errandSecond_48 : decode cX11_errandSecond 48 = .ok (.aload_n 0, 1) := by decide +kernel
theorem dX11_errandSecond_49 : decode cX11_errandSecond 49 = .ok (.getfield 72, 3) := by decide +kernel
theorem dX11_errandSecond_52 : decode cX11_errandSecond 52 = .ok (.iload_n 1, 1) := by decide +kernel
theorem dX11_errandSecond_53 : decode cX11_errandSecond 53 = .ok (.putfield 326, 3) := by decide +kernel
theorem dX11_errandSecond_56 : decode cX11_errandSecond 56 = .ok (.aload_n 0, 1) := by decide +kernel
theorem dX11_errandSecond_57 : decode cX11_errandSecond 57 = .ok (.getfield 72, 3) := by decide +kernel
theorem dX11_errandSecond_60 : decode cX11_errandSecond 60 = .ok (.iload_n 2, 1) := by decide +kernel
theorem dX11_errandSecond_61 : decode cX11_errandSecond 61 = .ok (.putfield 329, 3) := by decide +kernel
theorem dX11_errandSecond_64 : decode cX11_errandSecond 64 = .ok (.aload_n 0, 1) := by decide +kernel
theorem dX11_errandSecond_65 : decode cX11_errandSecond 65 = .ok (.getfield 72, 3) := by decide +kernel
theorem dX11_errandSecond_68 : decode cX11_errandSecond 68 = .ok (.invokevirtual 264, 3) := by decide +kernel
theorem dX11_errandSecond_71 : decode cX11_errandSecond 71 = .ok (.aload_n 0, 1) := by decide +kernel
theorem dX11_errandSecond_72 : decode cX11_errandSecond 72 = .ok (.getfield 72, 3) := by decide +kernel
theorem dX11_errandSecond_75 : decode cX11_errandSecond 75 = .ok (.getfield 200, 3) := by decide +kernel
theorem dX11_errandSecond_78 : decode cX11_errandSecond 78 = .ok (.iload_n 2, 1) := by decide +kernel
theorem dX11_errandSecond_79 : decode cX11_errandSecond 79 = .ok (.iaload, 1) := by decide +kernel
theorem dX11_errandSecond_80 : decode cX11_errandSecond 80 = .ok (.istore_n 3, 1) := by decide +kernel
theorem dX11_errandSecond_81 : decode cX11_errandSecond 81 = .ok (.iload_n 3, 1) := by decide +kernel
theorem dX11_errandSecond_82 : decode cX11_errandSecond 82 = .ok (.aload_n 0, 1) := by decide +kernel
theorem dX11_errandSecond_83 : decode cX11_errandSecond 83 = .ok (.getfield 72, 3) := by decide +kernel
theorem dX11_errandSecond_86 : decode cX11_errandSecond 86 = .ok (.getfield 332, 3) := by decide +kernel
theorem dX11_errandSecond_89 : decode cX11_errandSecond 89 = .ok (.iload_n 2, 1) := by decide +kernel
theorem dX11_errandSecond_90 : decode cX11_errandSecond 90 = .ok (.iaload, 1) := by decide +kernel
theorem dX11_errandSecond_91 : decode cX11_errandSecond 91 = .ok (.if_icmp .gt 7, 3) := by decide +kernel
theorem dX11_errandSecond_94 : decode cX11_errandSecond 94 = .ok (.iload_n 3, 1) := by decide +kernel
theorem dX11_errandSecond_95 : decode cX11_errandSecond 95 = .ok (.goto 4, 3) := by decide +kernel
theorem dX11_errandSecond_98 : decode cX11_errandSecond 98 = .ok (.iconst (-1), 1) := by decide +kernel
theorem dX11_errandSecond_99 : decode cX11_errandSecond 99 = .ok (.ireturn, 1) := by decide +kernel
theorem dX11_trayPence_0 : decode cX11_trayPence 0 = .ok (.iload_n 1, 1) := by decide +kernel
theorem dX11_trayPence_1 : decode cX11_trayPence 1 = .ok (.istore_n 3, 1) := by decide +kernel
theorem dX11_trayPence_2 : decode cX11_trayPence 2 = .ok (.iconst 0, 1) := by decide +kernel
theorem dX11_trayPence_3 : decode cX11_trayPence 3 = .ok (.istore 4, 2) := by decide +kernel
theorem dX11_trayPence_5 : decode cX11_trayPence 5 = .ok (.iconst 0, 1) := by decide +kernel
theorem dX11_trayPence_6 : decode cX11_trayPence 6 = .ok (.istore 5, 2) := by decide +kernel
theorem dX11_trayPence_8 : decode cX11_trayPence 8 = .ok (.iload 5, 2) := by decide +kernel
theorem dX11_trayPence_10 : decode cX11_trayPence 10 = .ok (.aload_n 0, 1) := by decide +kernel
theorem dX11_trayPence_11 : decode cX11_trayPence 11 = .ok (.getfield 61, 3) := by decide +kernel
theorem dX11_trayPence_14 : decode cX11_trayPence 14 = .ok (.getfield 229, 3) := by decide +kernel
theorem dX11_trayPence_17 : decode cX11_trayPence 17 = .ok (.if_icmp .ge 69, 3) := by decide +kernel
theorem dX11_trayPence_20 : decode cX11_trayPence 20 = .ok (.aload_n 0, 1) := by decide +kernel
theorem dX11_trayPence_21 : decode cX11_trayPence 21 = .ok (.getfield 61, 3) := by decide +kernel
theorem dX11_trayPence_24 : decode cX11_trayPence 24 = .ok (.getfield 137, 3) := by decide +kernel
theorem dX11_trayPence_27 : decode cX11_trayPence 27 = .ok (.iload 5, 2) := by decide +kernel
theorem dX11_trayPence_29 : decode cX11_trayPence 29 = .ok (.aaload, 1) := by decide +kernel
theorem dX11_trayPence_30 : decode cX11_trayPence 30 = .ok (.astore 6, 2) := by decide +kernel
theorem dX11_trayPence_32 : decode cX11_trayPence 32 = .ok (.aload 6, 2) := by decide +kernel
theorem dX11_trayPence_34 : decode cX11_trayPence 34 = .ok (.getfield 152, 3) := by decide +kernel
theorem dX11_trayPence_37 : decode cX11_trayPence 37 = .ok (.iload_n 2, 1) := by decide +kernel
theorem dX11_trayPence_38 : decode cX11_trayPence 38 = .ok (.if_icmp .lt 42, 3) := by decide +kernel
theorem dX11_trayPence_41 : decode cX11_trayPence 41 = .ok (.aload 6, 2) := by decide +kernel
theorem dX11_trayPence_43 : decode cX11_trayPence 43 = .ok (.getfield 335, 3) := by decide +kernel
theorem dX11_trayPence_46 : decode cX11_trayPence 46 = .ok (.iload_n 3, 1) := by decide +kernel
theorem dX11_trayPence_47 : decode cX11_trayPence 47 = .ok (.if_icmp .gt 33, 3) := by decide +kernel
theorem dX11_trayPence_50 : decode cX11_trayPence 50 = .ok (.iload_n 3, 1) := by decide +kernel
theorem dX11_trayPence_51 : decode cX11_trayPence 51 = .ok (.aload 6, 2) := by decide +kernel
theorem dX11_trayPence_53 : decode cX11_trayPence 53 = .ok (.getfield 335, 3) := by decide +kernel
theorem dX11_trayPence_56 : decode cX11_trayPence 56 = .ok (.isub, 1) := by decide +kernel
theorem dX11_trayPence_57 : decode cX11_trayPence 57 = .ok (.istore_n 3, 1) := by decide +kernel
theorem dX11_trayPence_58 : decode cX11_trayPence 58 = .ok (.iload 4, 2) := by decide +kernel
theorem dX11_trayPence_60 : decode cX11_trayPence 60 = .ok (.aload_n 0, 1) := by decide +kernel
theorem dX11_trayPence_61 : decode cX11_trayPence 61 = .ok (.getfield 61, 3) := by decide +kernel
theorem dX11_trayPence_64 : decode cX11_trayPence 64 = .ok (.iload 5, 2) := by decide +kernel
theorem dX11_trayPence_66 : decode cX11_trayPence 66 = .ok (.invokevirtual 338, 3) := by decide +kernel
theorem dX11_trayPence_69 : decode cX11_trayPence 69 = .ok (.aload 6, 2) := by decide +kernel
theorem dX11_trayPence_71 : decode cX11_trayPence 71 = .ok (.getfield 335, 3) := by decide +kernel
theorem dX11_trayPence_74 : decode cX11_trayPence 74 = .ok (.iload_n 2, 1) := by decide +kernel
theorem dX11_trayPence_75 : decode cX11_trayPence 75 = .ok (.imul, 1) := by decide +kernel
theorem dX11_trayPence_76 : decode cX11_trayPence 76 = .ok (.iadd, 1) := by decide +kernel
theorem dX11_trayPence_77 : decode cX11_trayPence 77 = .ok (.iadd, 1) := by decide +kernel
theorem dX11_trayPence_78 : decode cX11_trayPence 78 = .ok (.istore 4, 2) := by decide +kernel
theorem dX11_trayPence_80 : decode cX11_trayPence 80 = .ok (.iinc 5 1, 3) := by decide +kernel
theorem dX11_trayPence_83 : decode cX11_trayPence 83 = .ok (.goto (-75), 3) := by decide +kernel
theorem dX11_trayPence_86 : decode cX11_trayPence 86 = .ok (.iload 4, 2) := by decide +kernel
theorem dX11_trayPence_88 : decode cX11_trayPence 88 = .ok (.ireturn, 1) := by decide +kernel
theorem dX11_meanAhead_0 : decode cX11_meanAhead 0 = .ok (.iconst 0, 1) := by decide +kernel
theorem dX11_meanAhead_1 : decode cX11_meanAhead 1 = .ok (.istore_n 3, 1) := by decide +kernel
theorem dX11_meanAhead_2 : decode cX11_meanAhead 2 = .ok (.iconst 0, 1) := by decide +kernel
theorem dX11_meanAhead_3 : decode cX11_meanAhead 3 = .ok (.istore 4, 2) := by decide +kernel
theorem dX11_meanAhead_5 : decode cX11_meanAhead 5 = .ok (.iload 4, 2) := by decide +kernel
theorem dX11_meanAhead_7 : decode cX11_meanAhead 7 = .ok (.iconst 4, 1) := by decide +kernel
theorem dX11_meanAhead_8 : decode cX11_meanAhead 8 = .ok (.if_icmp .ge 98, 3) := by decide +kernel
theorem dX11_meanAhead_11 : decode cX11_meanAhead 11 = .ok (.aload_n 0, 1) := by decide +kernel
theorem dX11_meanAhead_12 : decode cX11_meanAhead 12 = .ok (.getfield 61, 3) := by decide +kernel
theorem dX11_meanAhead_15 : decode cX11_meanAhead 15 = .ok (.getfield 341, 3) := by decide +kernel
theorem dX11_meanAhead_18 : decode cX11_meanAhead 18 = .ok (.iload 4, 2) := by decide +kernel
theorem dX11_meanAhead_20 : decode cX11_meanAhead 20 = .ok (.iaload, 1) := by decide +kernel
theorem dX11_meanAhead_21 : decode cX11_meanAhead 21 = .ok (.ifCond .le 79, 3) := by decide +kernel
theorem dX11_meanAhead_24 : decode cX11_meanAhead 24 = .ok (.aload_n 0, 1) := by decide +kernel
theorem dX11_meanAhead_25 : decode cX11_meanAhead 25 = .ok (.getfield 72, 3) := by decide +kernel
theorem dX11_meanAhead_28 : decode cX11_meanAhead 28 = .ok (.aload_n 0, 1) := by decide +kernel
theorem dX11_meanAhead_29 : decode cX11_meanAhead 29 = .ok (.getfield 61, 3) := by decide +kernel
theorem dX11_meanAhead_32 : decode cX11_meanAhead 32 = .ok (.aload_n 0, 1) := by decide +kernel
theorem dX11_meanAhead_33 : decode cX11_meanAhead 33 = .ok (.getfield 64, 3) := by decide +kernel
theorem dX11_meanAhead_36 : decode cX11_meanAhead 36 = .ok (.invokevirtual 258, 3) := by decide +kernel
theorem dX11_meanAhead_39 : decode cX11_meanAhead 39 = .ok (.aload_n 0, 1) := by decide +kernel
theorem dX11_meanAhead_40 : decode cX11_meanAhead 40 = .ok (.getfield 72, 3) := by decide +kernel
theorem dX11_meanAhead_43 : decode cX11_meanAhead 43 = .ok (.iload_n 1, 1) := by decide +kernel
theorem dX11_meanAhead_44 : decode cX11_meanAhead 44 = .ok (.putfield 344, 3) := by decide +kernel
theorem dX11_meanAhead_47 : decode cX11_meanAhead 47 = .ok (.aload_n 0, 1) := by decide +kernel
theorem dX11_meanAhead_48 : decode cX11_meanAhead 48 = .ok (.getfield 72, 3) := by decide +kernel
theorem dX11_meanAhead_51 : decode cX11_meanAhead 51 = .ok (.iload_n 2, 1) := by decide +kernel
theorem dX11_meanAhead_52 : decode cX11_meanAhead 52 = .ok (.putfield 347, 3) := by decide +kernel
theorem dX11_meanAhead_55 : decode cX11_meanAhead 55 = .ok (.aload_n 0, 1) := by decide +kernel
theorem dX11_meanAhead_56 : decode cX11_meanAhead 56 = .ok (.getfield 72, 3) := by decide +kernel
theorem dX11_meanAhead_59 : decode cX11_meanAhead 59 = .ok (.iload 4, 2) := by decide +kernel
theorem dX11_meanAhead_61 : decode cX11_meanAhead 61 = .ok (.putfield 350, 3) := by decide +kernel
theorem dX11_meanAhead_64 : decode cX11_meanAhead 64 = .ok (.aload_n 0, 1) := by decide +kernel
theorem dX11_meanAhead_65 : decode cX11_meanAhead 65 = .ok (.getfield 72, 3) := by decide +kernel
theorem dX11_meanAhead_68 : decode cX11_meanAhead 68 = .ok (.invokevirtual 264, 3) := by decide +kernel
theorem dX11_meanAhead_71 : decode cX11_meanAhead 71 = .ok (.iload_n 3, 1) := by decide +kernel
theorem dX11_meanAhead_72 : decode cX11_meanAhead 72 = .ok (.aload_n 0, 1) := by decide +kernel
theorem dX11_meanAhead_73 : decode cX11_meanAhead 73 = .ok (.getfield 61, 3) := by decide +kernel
theorem dX11_meanAhead_76 : decode cX11_meanAhead 76 = .ok (.getfield 341, 3) := by decide +kernel
theorem dX11_meanAhead_79 : decode cX11_meanAhead 79 = .ok (.iload 4, 2) := by decide +kernel
theorem dX11_meanAhead_81 : decode cX11_meanAhead 81 = .ok (.iaload, 1) := by decide +kernel
theorem dX11_meanAhead_82 : decode cX11_meanAhead 82 = .ok (.aload_n 0, 1) := by decide +kernel
theorem dX11_meanAhead_83 : decode cX11_meanAhead 83 = .ok (.getfield 72, 3) := by decide +kernel
theorem dX11_meanAhead_86 : decode cX11_meanAhead 86 = .ok (.invokevirtual 191, 3) := by decide +kernel
theorem dX11_meanAhead_89 : decode cX11_meanAhead 89 = .ok (.aload_n 0, 1) := by decide +kernel
theorem dX11_meanAhead_90 : decode cX11_meanAhead 90 = .ok (.getfield 72, 3) := by decide +kernel
theorem dX11_meanAhead_93 : decode cX11_meanAhead 93 = .ok (.getfield 347, 3) := by decide +kernel
theorem dX11_meanAhead_96 : decode cX11_meanAhead 96 = .ok (.isub, 1) := by decide +kernel
theorem dX11_meanAhead_97 : decode cX11_meanAhead 97 = .ok (.imul, 1) := by decide +kernel
theorem dX11_meanAhead_98 : decode cX11_meanAhead 98 = .ok (.iadd, 1) := by decide +kernel
theorem dX11_meanAhead_99 : decode cX11_meanAhead 99 = .ok (.istore_n 3, 1) := by decide +kernel
theorem dX11_meanAhead_100 : decode cX11_meanAhead 100 = .ok (.iinc 4 1, 3) := by decide +kernel
theorem dX11_meanAhead_103 : decode cX11_meanAhead 103 = .ok (.goto (-98), 3) := by decide +kernel
theorem dX11_meanAhead_106 : decode cX11_meanAhead 106 = .ok (.iload_n 3, 1) := by decide +kernel
theorem dX11_meanAhead_107 : decode cX11_meanAhead 107 = .ok (.bipush 100, 2) := by decide +kernel
theorem dX11_meanAhead_109 : decode cX11_meanAhead 109 = .ok (.imul, 1) := by decide +kernel
theorem dX11_meanAhead_110 : decode cX11_meanAhead 110 = .ok (.ireturn, 1) := by decide +kernel
