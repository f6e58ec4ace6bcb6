theorem dX0_init_0 : decode cX0_init 0 = .ok (.aload_n 0, 1) := by decide +kernel
theorem dX0_init_1 : decode cX0_init 1 = .ok (.invokespecial 3, 3) := by decide +kernel
theorem dX0_init_4 : decode cX0_init 4 = .ok (.aload_n 0, 1) := by decide +kernel
theorem dX0_init_5 : decode cX0_init 5 = .ok (.iconst 3, 1) := by decide +kernel
theorem dX0_init_6 : decode cX0_init 6 = .ok (.newarray .int, 2) := by decide +kernel
theorem dX0_init_8 : decode cX0_init 8 = .ok (.putfield 9, 3) := by decide +kernel
theorem dX0_init_11 : decode cX0_init 11 = .ok (.return_, 1) := by decide +kernel
theorem dX1_init_0 : decode cX1_init 0 = .ok (.aload_n 0, 1) := by decide +kernel
theorem dX1_init_1 : decode cX1_init 1 = .ok (.invokespecial 3, 3) := by decide +kernel
theorem dX1_init_4 : decode cX1_init 4 = .ok (.aload_n 0, 1) := by decide +kernel
theorem dX1_init_5 : decode cX1_init 5 = .ok (.bipush 120, 2) := by decide +kernel
theorem dX1_init_7 : decode cX1_init 7 = .ok (.newarray .int, 2) := by decide +kernel
theorem dX1_init_9 : decode cX1_init 9 = .ok (.putfield 9, 3) := by decide +kernel
theorem dX1_init_12 : decode cX1_init 12 = .ok (.aload_n 0, 1) := by decide +kernel
theorem dX1_init_13 : decode cX1_init 13 = .ok (.aload_n 1, 1) := by decide +kernel
theorem dX1_init_14 : decode cX1_init 14 = .ok (.putfield 15, 3) := by decide +kernel
theorem dX1_init_17 : decode cX1_init 17 = .ok (.return_, 1) := by decide +kernel
theorem dX1_read_0 : decode cX1_read 0 = .ok (.aload_n 0, 1) := by decide +kernel
theorem dX1_read_1 : decode cX1_read 1 = .ok (.iconst 0, 1) := by decide +kernel
theorem dX1_read_2 : decode cX1_read 2 = .ok (.putfield 19, 3) := by decide +kernel
theorem dX1_read_5 : decode cX1_read 5 = .ok (.aload_n 0, 1) := by decide +kernel
theorem dX1_read_6 : decode cX1_read 6 = .ok (.getfield 15, 3) := by decide +kernel
theorem dX1_read_9 : decode cX1_read 9 = .ok (.invokevirtual 23, 3) := by decide +kernel
theorem dX1_read_12 : decode cX1_read 12 = .ok (.iconst 0, 1) := by decide +kernel
theorem dX1_read_13 : decode cX1_read 13 = .ok (.istore_n 2, 1) := by decide +kernel
theorem dX1_read_14 : decode cX1_read 14 = .ok (.iload_n 2, 1) := by decide +kernel
theorem dX1_read_15 : decode cX1_read 15 = .ok (.sipush 1000, 3) := by decide +kernel
theorem dX1_read_18 : decode cX1_read 18 = .ok (.if_icmp .ge 24, 3) := by decide +kernel
theorem dX1_read_21 : decode cX1_read 21 = .ok (.aload_n 0, 1) := by decide +kernel
theorem dX1_read_22 : decode cX1_read 22 = .ok (.getfield 15, 3) := by decide +kernel
theorem dX1_read_25 : decode cX1_read 25 = .ok (.invokevirtual 28, 3) := by decide +kernel
theorem dX1_read_28 : decode cX1_read 28 = .ok (.ifCond .eq 14, 3) := by decide +kernel
theorem dX1_read_31 : decode cX1_read 31 = .ok (.aload_n 0, 1) := by decide +kernel
theorem dX1_read_32 : decode cX1_read 32 = .ok (.aload_n 1, 1) := by decide +kernel
theorem dX1_read_33 : decode cX1_read 33 = .ok (.invokevirtual 32, 3) := by decide +kernel
theorem dX1_read_36 : decode cX1_read 36 = .ok (.iinc 2 1, 3) := by decide +kernel
theorem dX1_read_39 : decode cX1_read 39 = .ok (.goto (-25), 3) := by decide +kernel
theorem dX1_read_42 : decode cX1_read 42 = .ok (.aload_n 0, 1) := by decide +kernel
theorem dX1_read_43 : decode cX1_read 43 = .ok (.getfield 15, 3) := by decide +kernel
theorem dX1_read_46 : decode cX1_read 46 = .ok (.invokevirtual 36, 3) := by decide +kernel
theorem dX1_read_49 : decode cX1_read 49 = .ok (.ireturn, 1) := by decide +kernel
theorem dX1_readLine_0 : decode cX1_readLine 0 = .ok (.aload_n 0, 1) := by decide +kernel
theorem dX1_readLine_1 : decode cX1_readLine 1 = .ok (.getfield 15, 3) := by decide +kernel
theorem dX1_readLine_4 : decode cX1_readLine 4 = .ok (.getfield 40, 3) := by decide +kernel
theorem dX1_readLine_7 : decode cX1_readLine 7 = .ok (.invokestatic 44, 3) := by decide +kernel
theorem dX1_readLine_10 : decode cX1_readLine 10 = .ok (.istore_n 2, 1) := by decide +kernel
theorem dX1_readLine_11 : decode cX1_readLine 11 = .ok (.aload_n 0, 1) := by decide +kernel
theorem dX1_readLine_12 : decode cX1_readLine 12 = .ok (.getfield 15, 3) := by decide +kernel
theorem dX1_readLine_15 : decode cX1_readLine 15 = .ok (.getfield 40, 3) := by decide +kernel
theorem dX1_readLine_18 : decode cX1_readLine 18 = .ok (.getstatic 48, 3) := by decide +kernel
theorem dX1_readLine_21 : decode cX1_readLine 21 = .ok (.if_acmp .ne 7, 3) := by decide +kernel
theorem dX1_readLine_24 : decode cX1_readLine 24 = .ok (.iconst 1, 1) := by decide +kernel
theorem dX1_readLine_25 : decode cX1_readLine 25 = .ok (.goto 4, 3) := by decide +kernel
theorem dX1_readLine_28 : decode cX1_readLine 28 = .ok (.iconst 0, 1) := by decide +kernel
theorem dX1_readLine_29 : decode cX1_readLine 29 = .ok (.istore_n 3, 1) := by decide +kernel
theorem dX1_readLine_30 : decode cX1_readLine 30 = .ok (.iload_n 2, 1) := by decide +kernel
theorem dX1_readLine_31 : decode cX1_readLine 31 = .ok (.iconst (-1), 1) := by decide +kernel
theorem dX1_readLine_32 : decode cX1_readLine 32 = .ok (.if_icmp .ne 14, 3) := by decide +kernel
theorem dX1_readLine_35 : decode cX1_readLine 35 = .ok (.aload_n 0, 1) := by decide +kernel
theorem dX1_readLine_36 : decode cX1_readLine 36 = .ok (.getfield 15, 3) := by decide +kernel
theorem dX1_readLine_39 : decode cX1_readLine 39 = .ok (.iconst 1, 1) := by decide +kernel
theorem dX1_readLine_40 : decode cX1_readLine 40 = .ok (.invokevirtual 53, 3) := by decide +kernel
theorem dX1_readLine_43 : decode cX1_readLine 43 = .ok (.goto 178, 3) := by decide +kernel
theorem dX1_readLine_46 : decode cX1_readLine 46 = .ok (.aload_n 0, 1) := by decide +kernel
theorem dX1_readLine_47 : decode cX1_readLine 47 = .ok (.getfield 19, 3) := by decide +kernel
theorem dX1_readLine_50 : decode cX1_readLine 50 = .ok (.bipush 40, 2) := by decide +kernel
theorem dX1_readLine_52 : decode cX1_readLine 52 = .ok (.if_icmp .lt 14, 3) := by decide +kernel
theorem dX1_readLine_55 : decode cX1_readLine 55 = .ok (.aload_n 0, 1) := by decide +kernel
theorem dX1_readLine_56 : decode cX1_readLine 56 = .ok (.getfield 15, 3) := by decide +kernel
theorem dX1_readLine_59 : decode cX1_readLine 59 = .ok (.iconst 5, 1) := by decide +kernel
theorem dX1_readLine_60 : decode cX1_readLine 60 = .ok (.invokevirtual 53, 3) := by decide +kernel
theorem dX1_readLine_63 : decode cX1_readLine 63 = .ok (.goto 158, 3) := by decide +kernel
theorem dX1_readLine_66 : decode cX1_readLine 66 = .ok (.aload_n 0, 1) := by decide +kernel
theorem dX1_readLine_67 : decode cX1_readLine 67 = .ok (.getfield 15, 3) := by decide +kernel
theorem dX1_readLine_70 : decode cX1_readLine 70 = .ok (.invokevirtual 57, 3) := by decide +kernel
theorem dX1_readLine_73 : decode cX1_readLine 73 = .ok (.iconst 0, 1) := by decide +kernel
theorem dX1_readLine_74 : decode cX1_readLine 74 = .ok (.istore 4, 2) := by decide +kernel
theorem dX1_readLine_76 : decode cX1_readLine 76 = .ok (.iload_n 3, 1) := by decide +kernel
theorem dX1_readLine_77 : decode cX1_readLine 77 = .ok (.ifCond .eq 7, 3) := by decide +kernel
theorem dX1_readLine_80 : decode cX1_readLine 80 = .ok (.iconst 1, 1) := by decide +kernel
theorem dX1_readLine_81 : decode cX1_readLine 81 = .ok (.goto 4, 3) := by decide +kernel
theorem dX1_readLine_84 : decode cX1_readLine 84 = .ok (.iconst 0, 1) := by decide +kernel
theorem dX1_readLine_85 : decode cX1_readLine 85 = .ok (.istore 5, 2) := by decide +kernel
theorem dX1_readLine_87 : decode cX1_readLine 87 = .ok (.iload_n 2, 1) := by decide +kernel
theorem dX1_readLine_88 : decode cX1_readLine 88 = .ok (.iconst 3, 1) := by decide +kernel
theorem dX1_readLine_89 : decode cX1_readLine 89 = .ok (.if_icmp .ne 26, 3) := by decide +kernel
theorem dX1_readLine_92 : decode cX1_readLine 92 = .ok (.aload_n 0, 1) := by decide +kernel
theorem dX1_readLine_93 : decode cX1_readLine 93 = .ok (.getfield 15, 3) := by decide +kernel
theorem dX1_readLine_96 : decode cX1_readLine 96 = .ok (.aload_n 1, 1) := by decide +kernel
theorem dX1_readLine_97 : decode cX1_readLine 97 = .ok (.aload_n 0, 1) := by decide +kernel
theorem dX1_readLine_98 : decode cX1_readLine 98 = .ok (.getfield 15, 3) := by decide +kernel
theorem dX1_readLine_101 : decode cX1_readLine 101 = .ok (.getfield 60, 3) := by decide +kernel
theorem dX1_readLine_104 : decode cX1_readLine 104 = .ok (.invokevirtual 64, 3) := by decide +kernel
theorem dX1_readLine_107 : decode cX1_readLine 107 = .ok (.invokevirtual 70, 3) := by decide +kernel
theorem dX1_readLine_110 : decode cX1_readLine 110 = .ok (.istore 4, 2) := by decide +kernel
theorem dX1_readLine_112 : decode cX1_readLine 112 = .ok (.goto 100, 3) := by decide +kernel
theorem dX1_readLine_115 : decode cX1_readLine 115 = .ok (.iload_n 2, 1) := by decide +kernel
theorem dX1_readLine_116 : decode cX1_readLine 116 = .ok (.iconst 4, 1) := by decide +kernel
theorem dX1_readLine_117 : decode cX1_readLine 117 = .ok (.if_icmp .ne 38, 3) := by decide +kernel
theorem dX1_readLine_120 : decode cX1_readLine 120 = .ok (.aload_n 0, 1) := by decide +kernel
theorem dX1_readLine_121 : decode cX1_readLine 121 = .ok (.getfield 15, 3) := by decide +kernel
theorem dX1_readLine_124 : decode cX1_readLine 124 = .ok (.aload_n 1, 1) := by decide +kernel
theorem dX1_readLine_125 : decode cX1_readLine 125 = .ok (.aload_n 0, 1) := by decide +kernel
theorem dX1_readLine_126 : decode cX1_readLine 126 = .ok (.getfield 15, 3) := by decide +kernel
theorem dX1_readLine_129 : decode cX1_readLine 129 = .ok (.getfield 60, 3) := by decide +kernel
theorem dX1_readLine_132 : decode cX1_readLine 132 = .ok (.invokevirtual 74, 3) := by decide +kernel
theorem dX1_readLine_135 : decode cX1_readLine 135 = .ok (.invokevirtual 70, 3) := by decide +kernel
theorem dX1_readLine_138 : decode cX1_readLine 138 = .ok (.istore 4, 2) := by decide +kernel
theorem dX1_readLine_140 : decode cX1_readLine 140 = .ok (.aload_n 0, 1) := by decide +kernel
theorem dX1_readLine_141 : decode cX1_readLine 141 = .ok (.getfield 15, 3) := by decide +kernel
theorem dX1_readLine_144 : decode cX1_readLine 144 = .ok (.iconst 0, 1) := by decide +kernel
theorem dX1_readLine_145 : decode cX1_readLine 145 = .ok (.bipush 99, 2) := by decide +kernel
theorem dX1_readLine_147 : decode cX1_readLine 147 = .ok (.invokevirtual 77, 3) := by decide +kernel
theorem dX1_readLine_150 : decode cX1_readLine 150 = .ok (.istore 5, 2) := by decide +kernel
theorem dX1_readLine_152 : decode cX1_readLine 152 = .ok (.goto 60, 3) := by decide +kernel
theorem dX1_readLine_155 : decode cX1_readLine 155 = .ok (.iload_n 2, 1) := by decide +kernel
theorem dX1_readLine_156 : decode cX1_readLine 156 = .ok (.ifCond .ne 19, 3) := by decide +kernel
theorem dX1_readLine_159 : decode cX1_readLine 159 = .ok (.aload_n 0, 1) := by decide +kernel
theorem dX1_readLine_160 : decode cX1_readLine 160 = .ok (.getfield 15, 3) := by decide +kernel
theorem dX1_readLine_163 : decode cX1_readLine 163 = .ok (.iconst 1, 1) := by decide +kernel
theorem dX1_readLine_164 : decode cX1_readLine 164 = .ok (.sipush 900, 3) := by decide +kernel
theorem dX1_readLine_167 : decode cX1_readLine 167 = .ok (.invokevirtual 77, 3) := by decide +kernel
theorem dX1_readLine_170 : decode cX1_readLine 170 = .ok (.istore 5, 2) := by decide +kernel
theorem dX1_readLine_172 : decode cX1_readLine 172 = .ok (.goto 40, 3) := by decide +kernel
theorem dX1_readLine_175 : decode cX1_readLine 175 = .ok (.iload_n 2, 1) := by decide +kernel
theorem dX1_readLine_176 : decode cX1_readLine 176 = .ok (.iconst 1, 1) := by decide +kernel
theorem dX1_readLine_177 : decode cX1_readLine 177 = .ok (.if_icmp .ne 19, 3) := by decide +kernel
theorem dX1_readLine_180 : decode cX1_readLine 180 = .ok (.aload_n 0, 1) := by decide +kernel
theorem dX1_readLine_181 : decode cX1_readLine 181 = .ok (.getfield 15, 3) := by decide +kernel
theorem dX1_readLine_184 : decode cX1_readLine 184 = .ok (.iconst 0, 1) := by decide +kernel
theorem dX1_readLine_185 : decode cX1_readLine 185 = .ok (.sipush 200, 3) := by decide +kernel
theorem dX1_readLine_188 : decode cX1_readLine 188 = .ok (.invokevirtual 77, 3) := by decide +kernel
theorem dX1_readLine_191 : decode cX1_readLine 191 = .ok (.istore 5, 2) := by decide +kernel
theorem dX1_readLine_193 : decode cX1_readLine 193 = .ok (.goto 19, 3) := by decide +kernel
theorem dX1_readLine_196 : decode cX1_readLine 196 = .ok (.iload_n 2, 1) := by decide +kernel
theorem dX1_readLine_197 : decode cX1_readLine 197 = .ok (.iconst 2, 1) := by decide +kernel
theorem dX1_readLine_198 : decode cX1_readLine 198 = .ok (.if_icmp .ne 14, 3) := by decide +kernel
theorem dX1_readLine_201 : decode cX1_readLine 201 = .ok (.aload_n 0, 1) := by decide +kernel
theorem dX1_readLine_202 : decode cX1_readLine 202 = .ok (.getfield 15, 3) := by decide +kernel
theorem dX1_readLine_205 : decode cX1_readLine 205 = .ok (.iconst 1, 1) := by decide +kernel
theorem dX1_readLine_206 : decode cX1_readLine 206 = .ok (.iconst 2, 1) := by decide +kernel
theorem dX1_readLine_207 : decode cX1_readLine 207 = .ok (.invokevirtual 77, 3) := by decide +kernel
theorem dX1_readLine_210 : decode cX1_readLine 210 = .ok (.istore 5, 2) := by decide +kernel
theorem dX1_readLine_212 : decode cX1_readLine 212 = .ok (.aload_n 0, 1) := by decide +kernel
theorem dX1_readLine_213 : decode cX1_readLine 213 = .ok (.iload_n 2, 1) := by decide +kernel
theorem dX1_readLine_214 : decode cX1_readLine 214 = .ok (.iload 4, 2) := by decide +kernel
theorem dX1_readLine_216 : decode cX1_readLine 216 = .ok (.iload 5, 2) := by decide +kernel
theorem dX1_readLine_218 : decode cX1_readLine 218 = .ok (.invokevirtual 81, 3) := by decide +kernel
theorem dX1_readLine_221 : decode cX1_readLine 221 = .ok (.aload_n 0, 1) := by decide +kernel
theorem dX1_readLine_222 : decode cX1_readLine 222 = .ok (.getfield 15, 3) := by decide +kernel
theorem dX1_readLine_225 : decode cX1_readLine 225 = .ok (.bipush 59, 2) := by decide +kernel
theorem dX1_readLine_227 : decode cX1_readLine 227 = .ok (.invokevirtual 85, 3) := by decide +kernel
theorem dX1_readLine_230 : decode cX1_readLine 230 = .ok (.return_, 1) := by decide +kernel
theorem dX1_keepLine_0 : decode cX1_keepLine 0 = .ok (.aload_n 0, 1) := by decide +kernel
theorem dX1_keepLine_1 : decode cX1_keepLine 1 = .ok (.getfield 19, 3) := by decide +kernel
theorem dX1_keepLine_4 : decode cX1_keepLine 4 = .ok (.iconst 3, 1) := by decide +kernel
theorem dX1_keepLine_5 : decode cX1_keepLine 5 = .ok (.imul, 1) := by decide +kernel
theorem dX1_keepLine_6 : decode cX1_keepLine 6 = .ok (.istore 4, 2) := by decide +kernel
theorem dX1_keepLine_8 : decode cX1_keepLine 8 = .ok (.aload_n 0, 1) := by decide +kernel
theorem dX1_keepLine_9 : decode cX1_keepLine 9 = .ok (.getfield 9, 3) := by decide +kernel
theorem dX1_keepLine_12 : decode cX1_keepLine 12 = .ok (.iload 4, 2) := by decide +kernel
theorem dX1_keepLine_14 : decode cX1_keepLine 14 = .ok (.iload_n 1, 1) := by decide +kernel
theorem dX1_keepLine_15 : decode cX1_keepLine 15 = .ok (.iastore, 1) := by decide +kernel
theorem dX1_keepLine_16 : decode cX1_keepLine 16 = .ok (.aload_n 0, 1) := by decide +kernel
theorem dX1_keepLine_17 : decode cX1_keepLine 17 = .ok (.getfield 9, 3) := by decide +kernel
theorem dX1_keepLine_20 : decode cX1_keepLine 20 = .ok (.iload 4, 2) := by decide +kernel
theorem dX1_keepLine_22 : decode cX1_keepLine 22 = .ok (.iconst 1, 1) := by decide +kernel
theorem dX1_keepLine_23 : decode cX1_keepLine 23 = .ok (.iadd, 1) := by decide +kernel
theorem dX1_keepLine_24 : decode cX1_keepLine 24 = .ok (.iload_n 2, 1) := by decide +kernel
theorem dX1_keepLine_25 : decode cX1_keepLine 25 = .ok (.iastore, 1) := by decide +kernel
theorem dX1_keepLine_26 : decode cX1_keepLine 26 = .ok (.aload_n 0, 1) := by decide +kernel
theorem dX1_keepLine_27 : decode cX1_keepLine 27 = .ok (.getfield 9, 3) := by decide +kernel
theorem dX1_keepLine_30 : decode cX1_keepLine 30 = .ok (.iload 4, 2) := by decide +kernel
theorem dX1_keepLine_32 : decode cX1_keepLine 32 = .ok (.iconst 2, 1) := by decide +kernel
theorem dX1_keepLine_33 : decode cX1_keepLine 33 = .ok (.iadd, 1) := by decide +kernel
theorem dX1_keepLine_34 : decode cX1_keepLine 34 = .ok (.iload_n 3, 1) := by decide +kernel
theorem dX1_keepLine_35 : decode cX1_keepLine 35 = .ok (.iastore, 1) := by decide +kernel
theorem dX1_keepLine_36 : decode cX1_keepLine 36 = .ok (.aload_n 0, 1) := by decide +kernel
theorem dX1_keepLine_37 : decode cX1_keepLine 37 = .ok (.dup, 1) := by decide +kernel
theorem dX1_keepLine_38 : decode cX1_keepLine 38 = .ok (.getfield 19, 3) := by decide +kernel
theorem dX1_keepLine_41 : decode cX1_keepLine 41 = .ok (.iconst 1, 1) := by decide +kernel
theorem dX1_keepLine_42 : decode cX1_keepLine 42 = .ok (.iadd, 1) := by decide +kernel
theorem dX1_keepLine_43 : decode cX1_keepLine 43 = .ok (.putfield 19, 3) := by decide +kernel
theorem dX1_keepLine_46 : decode cX1_keepLine 46 = .ok (.return_, 1) := by decide +kernel
theorem dX1_whatOf_0 : decode cX1_whatOf 0 = .ok (.aload_n 0, 1) := by decide +kernel
theorem dX1_whatOf_1 : decode cX1_whatOf 1 = .ok (.getstatic 48, 3) := by decide +kernel
theorem dX1_whatOf_4 : decode cX1_whatOf 4 = .ok (.if_acmp .eq 10, 3) := by decide +kernel
theorem dX1_whatOf_7 : decode cX1_whatOf 7 = .ok (.aload_n 0, 1) := by decide +kernel
theorem dX1_whatOf_8 : decode cX1_whatOf 8 = .ok (.getstatic 89, 3) := by decide +kernel
theorem dX1_whatOf_11 : decode cX1_whatOf 11 = .ok (.if_acmp .ne 5, 3) := by decide +kernel
theorem dX1_whatOf_14 : decode cX1_whatOf 14 = .ok (.iconst 3, 1) := by decide +kernel
theorem dX1_whatOf_15 : decode cX1_whatOf 15 = .ok (.ireturn, 1) := by decide +kernel
theorem dX1_whatOf_16 : decode cX1_whatOf 16 = .ok (.aload_n 0, 1) := by decide +kernel
theorem dX1_whatOf_17 : decode cX1_whatOf 17 = .ok (.getstatic 92, 3) := by decide +kernel
theorem dX1_whatOf_20 : decode cX1_whatOf 20 = .ok (.if_acmp .ne 7, 3) := by decide +kernel
theorem dX1_whatOf_23 : decode cX1_whatOf 23 = .ok (.iconst 0, 1) := by decide +kernel
theorem dX1_whatOf_24 : decode cX1_whatOf 24 = .ok (.goto 48, 3) := by decide +kernel
theorem dX1_whatOf_27 : decode cX1_whatOf 27 = .ok (.aload_n 0, 1) := by decide +kernel
theorem dX1_whatOf_28 : decode cX1_whatOf 28 = .ok (.getstatic 95, 3) := by decide +kernel
theorem dX1_whatOf_31 : decode cX1_whatOf 31 = .ok (.if_acmp .ne 7, 3) := by decide +kernel
theorem dX1_whatOf_34 : decode cX1_whatOf 34 = .ok (.iconst 1, 1) := by decide +kernel
theorem dX1_whatOf_35 : decode cX1_whatOf 35 = .ok (.goto 37, 3) := by decide +kernel
theorem dX1_whatOf_38 : decode cX1_whatOf 38 = .ok (.aload_n 0, 1) := by decide +kernel
theorem dX1_whatOf_39 : decode cX1_whatOf 39 = .ok (.getstatic 98, 3) := by decide +kernel
theorem dX1_whatOf_42 : decode cX1_whatOf 42 = .ok (.if_acmp .ne 7, 3) := by decide +kernel
theorem dX1_whatOf_45 : decode cX1_whatOf 45 = .ok (.iconst 2, 1) := by decide +kernel
theorem dX1_whatOf_46 : decode cX1_whatOf 46 = .ok (.goto 26, 3) := by decide +kernel
theorem dX1_whatOf_49 : decode cX1_whatOf 49 = .ok (.aload_n 0, 1) := by decide +kernel
theorem dX1_whatOf_50 : decode cX1_whatOf 50 = .ok (.getstatic 101, 3) := by decide +kernel
theorem dX1_whatOf_53 : decode cX1_whatOf 53 = .ok (.if_acmp .ne 7, 3) := by decide +kernel
theorem dX1_whatOf_56 : decode cX1_whatOf 56 = .ok (.iconst 4, 1) := by decide +kernel
theorem dX1_whatOf_57 : decode cX1_whatOf 57 = .ok (.goto 15, 3) := by decide +kernel
theorem dX1_whatOf_60 : decode cX1_whatOf 60 = .ok (.aload_n 0, 1) := by decide +kernel
theorem dX1_whatOf_61 : decode cX1_whatOf 61 = .ok (.getstatic 104, 3) := by decide +kernel
theorem dX1_whatOf_64 : decode cX1_whatOf 64 = .ok (.if_acmp .ne 7, 3) := by decide +kernel
theorem dX1_whatOf_67 : decode cX1_whatOf 67 = .ok (.iconst 5, 1) := by decide +kernel
theorem dX1_whatOf_68 : decode cX1_whatOf 68 = .ok (.goto 4, 3) := by decide +kernel
theorem dX1_whatOf_71 : decode cX1_whatOf 71 = .ok (.iconst (-1), 1) := by decide +kernel
theorem dX1_whatOf_72 : decode cX1_whatOf 72 = .ok (.ireturn, 1) := by decide +kernel
theorem dX2_init_0 : decode cX2_init 0 = .ok (.aload_n 0, 1) := by decide +kernel
theorem dX2_init_1 : decode cX2_init 1 = .ok (.invokespecial 3, 3) := by decide +kernel
theorem dX2_init_4 : decode cX2_init 4 = .ok (.aload_n 0, 1) := by decide +kernel
theorem dX2_init_5 : decode cX2_init 5 = .ok (.sipush 1000, 3) := by decide +kernel
theorem dX2_init_8 : decode cX2_init 8 = .ok (.newarray .int, 2) := by decide +kernel
theorem dX2_init_10 : decode cX2_init 10 = .ok (.putfield 9, 3) := by decide +kernel
theorem dX2_init_13 : decode cX2_init 13 = .ok (.aload_n 0, 1) := by decide +kernel
theorem dX2_init_14 : decode cX2_init 14 = .ok (.bipush 32, 2) := by decide +kernel
theorem dX2_init_16 : decode cX2_init 16 = .ok (.newarray .int, 2) := by decide +kernel
theorem dX2_init_18 : decode cX2_init 18 = .ok (.putfield 15, 3) := by decide +kernel
theorem dX2_init_21 : decode cX2_init 21 = .ok (.return_, 1) := by decide +kernel
theorem dX2_add_0 : decode cX2_add 0 = .ok (.aload_n 0, 1) := by decide +kernel
theorem dX2_add_1 : decode cX2_add 1 = .ok (.getfield 18, 3) := by decide +kernel
theorem dX2_add_4 : decode cX2_add 4 = .ok (.aload_n 0, 1) := by decide +kernel
theorem dX2_add_5 : decode cX2_add 5 = .ok (.getfield 9, 3) := by decide +kernel
theorem dX2_add_8 : decode cX2_add 8 = .ok (.arraylength, 1) := by decide +kernel
theorem dX2_add_9 : decode cX2_add 9 = .ok (.if_icmp .ge 23, 3) := by decide +kernel
theorem dX2_add_12 : decode cX2_add 12 = .ok (.aload_n 0, 1) := by decide +kernel
theorem dX2_add_13 : decode cX2_add 13 = .ok (.getfield 9, 3) := by decide +kernel
theorem dX2_add_16 : decode cX2_add 16 = .ok (.aload_n 0, 1) := by decide +kernel
theorem dX2_add_17 : decode cX2_add 17 = .ok (.getfield 18, 3) := by decide +kernel
theorem dX2_add_20 : decode cX2_add 20 = .ok (.iload_n 1, 1) := by decide +kernel
theorem dX2_add_21 : decode cX2_add 21 = .ok (.iastore, 1) := by decide +kernel
theorem dX2_add_22 : decode cX2_add 22 = .ok (.aload_n 0, 1) := by decide +kernel
theorem dX2_add_23 : decode cX2_add 23 = .ok (.dup, 1) := by decide +kernel
theorem dX2_add_24 : decode cX2_add 24 = .ok (.getfield 18, 3) := by decide +kernel
theorem dX2_add_27 : decode cX2_add 27 = .ok (.iconst 1, 1) := by decide +kernel
theorem dX2_add_28 : decode cX2_add 28 = .ok (.iadd, 1) := by decide +kernel
theorem dX2_add_29 : decode cX2_add 29 = .ok (.putfield 18, 3) := by decide +kernel
theorem dX2_add_32 : decode cX2_add 32 = .ok (.return_, 1) := by decide +kernel
theorem dX2_value_0 : decode cX2_value 0 = .ok (.iconst 0, 1) := by decide +kernel
theorem dX2_value_1 : decode cX2_value 1 = .ok (.istore 5, 2) := by decide +kernel
theorem dX2_value_3 : decode cX2_value 3 = .ok (.iconst 0, 1) := by decide +kernel
theorem dX2_value_4 : decode cX2_value 4 = .ok (.istore 6, 2) := by decide +kernel
theorem dX2_value_6 : decode cX2_value 6 = .ok (.iload 6, 2) := by decide +kernel
theorem dX2_value_8 : decode cX2_value 8 = .ok (.aload_n 0, 1) := by decide +kernel
theorem dX2_value_9 : decode cX2_value 9 = .ok (.getfield 18, 3) := by decide +kernel
theorem dX2_value_12 : decode cX2_value 12 = .ok (.if_icmp .ge 352, 3) := by decide +kernel
theorem dX2_value_15 : decode cX2_value 15 = .ok (.aload_n 0, 1) := by decide +kernel
theorem dX2_value_16 : decode cX2_value 16 = .ok (.getfield 9, 3) := by decide +kernel
theorem dX2_value_19 : decode cX2_value 19 = .ok (.iload 6, 2) := by decide +kernel
theorem dX2_value_21 : decode cX2_value 21 = .ok (.iaload, 1) := by decide +kernel
theorem dX2_value_22 : decode cX2_value 22 = .ok (.istore 7, 2) := by decide +kernel
theorem dX2_value_24 : decode cX2_value 24 = .ok (.iload 7, 2) := by decide +kernel
theorem dX2_value_26 : decode cX2_value 26 = .ok (.bipush (-4), 2) := by decide +kernel
theorem dX2_value_28 : decode cX2_value 28 = .ok (.if_icmp .lt 70, 3) := by decide +kernel
theorem dX2_value_31 : decode cX2_value 31 = .ok (.iload 5, 2) := by decide +kernel
theorem dX2_value_33 : decode cX2_value 33 = .ok (.aload_n 0, 1) := by decide +kernel
theorem dX2_value_34 : decode cX2_value 34 = .ok (.getfield 15, 3) := by decide +kernel
theorem dX2_value_37 : decode cX2_value 37 = .ok (.arraylength, 1) := by decide +kernel
theorem dX2_value_38 : decode cX2_value 38 = .ok (.if_icmp .ge 320, 3) := by decide +kernel
theorem dX2_value_41 : decode cX2_value 41 = .ok (.aload_n 0, 1) := by decide +kernel
theorem dX2_value_42 : decode cX2_value 42 = .ok (.getfield 15, 3) := by decide +kernel
theorem dX2_value_45 : decode cX2_value 45 = .ok (.iload 5, 2) := by decide +kernel
theorem dX2_value_47 : decode cX2_value 47 = .ok (.iload 7, 2) := by decide +kernel
theorem dX2_value_49 : decode cX2_value 49 = .ok (.ifCond .lt 8, 3) := by decide +kernel
theorem dX2_value_52 : decode cX2_value 52 = .ok (.iload 7, 2) := by decide +kernel
theorem dX2_value_54 : decode cX2_value 54 = .ok (.goto 37, 3) := by decide +kernel
theorem dX2_value_57 : decode cX2_value 57 = .ok (.iload 7, 2) := by decide +kernel
theorem dX2_value_59 : decode cX2_value 59 = .ok (.iconst (-1), 1) := by decide +kernel
theorem dX2_value_60 : decode cX2_value 60 = .ok (.if_icmp .ne 7, 3) := by decide +kernel
theorem dX2_value_63 : decode cX2_value 63 = .ok (.iload_n 1, 1) := by decide +kernel
theorem dX2_value_64 : decode cX2_value 64 = .ok (.goto 27, 3) := by decide +kernel
theorem dX2_value_67 : decode cX2_value 67 = .ok (.iload 7, 2) := by decide +kernel
theorem dX2_value_69 : decode cX2_value 69 = .ok (.bipush (-2), 2) := by decide +kernel
theorem dX2_value_71 : decode cX2_value 71 = .ok (.if_icmp .ne 7, 3) := by decide +kernel
theorem dX2_value_74 : decode cX2_value 74 = .ok (.iload_n 2, 1) := by decide +kernel
theorem dX2_value_75 : decode cX2_value 75 = .ok (.goto 16, 3) := by decide +kernel
theorem dX2_value_78 : decode cX2_value 78 = .ok (.iload 7, 2) := by decide +kernel
theorem dX2_value_80 : decode cX2_value 80 = .ok (.bipush (-3), 2) := by decide +kernel
theorem dX2_value_82 : decode cX2_value 82 = .ok (.if_icmp .ne 7, 3) := by decide +kernel
theorem dX2_value_85 : decode cX2_value 85 = .ok (.iload_n 3, 1) := by decide +kernel
theorem dX2_value_86 : decode cX2_value 86 = .ok (.goto 5, 3) := by decide +kernel
theorem dX2_value_89 : decode cX2_value 89 = .ok (.iload 4, 2) := by decide +kernel
theorem dX2_value_91 : decode cX2_value 91 = .ok (.iastore, 1) := by decide +kernel
theorem dX2_value_92 : decode cX2_value 92 = .ok (.iinc 5 1, 3) := by decide +kernel
theorem dX2_value_95 : decode cX2_value 95 = .ok (.goto 263, 3) := by decide +kernel
theorem dX2_value_98 : decode cX2_value 98 = .ok (.iload 7, 2) := by decide +kernel
theorem dX2_value_100 : decode cX2_value 100 = .ok (.bipush (-5), 2) := by decide +kernel
theorem dX2_value_102 : decode cX2_value 102 = .ok (.if_icmp .ne 37, 3) := by decide +kernel
theorem dX2_value_105 : decode cX2_value 105 = .ok (.iload 5, 2) := by decide +kernel
theorem dX2_value_107 : decode cX2_value 107 = .ok (.ifCond .le 251, 3) := by decide +kernel
theorem dX2_value_110 : decode cX2_value 110 = .ok (.aload_n 0, 1) := by decide +kernel
theorem dX2_value_111 : decode cX2_value 111 = .ok (.getfield 15, 3) := by decide +kernel
theorem dX2_value_114 : decode cX2_value 114 = .ok (.iload 5, 2) := by decide +kernel
theorem dX2_value_116 : decode cX2_value 116 = .ok (.iconst 1, 1) := by decide +kernel
theorem dX2_value_117 : decode cX2_value 117 = .ok (.isub, 1) := by decide +kernel
theorem dX2_value_118 : decode cX2_value 118 = .ok (.aload_n 0, 1) := by decide +kernel
theorem dX2_value_119 : decode cX2_value 119 = .ok (.getfield 15, 3) := by decide +kernel
theorem dX2_value_122 : decode cX2_value 122 = .ok (.iload 5, 2) := by decide +kernel
theorem dX2_value_124 : decode cX2_value 124 = .ok (.iconst 1, 1) := by decide +kernel
theorem dX2_value_125 : decode cX2_value 125 = .ok (.isub, 1) := by decide +kernel
theorem dX2_value_126 : decode cX2_value 126 = .ok (.iaload, 1) := by decide +kernel
theorem dX2_value_127 : decode cX2_value 127 = .ok (.ifCond .ne 7, 3) := by decide +kernel
theorem dX2_value_130 : decode cX2_value 130 = .ok (.iconst 1, 1) := by decide +kernel
theorem dX2_value_131 : decode cX2_value 131 = .ok (.goto 4, 3) := by decide +kernel
theorem dX2_value_134 : decode cX2_value 134 = .ok (.iconst 0, 1) := by decide +kernel
theorem dX2_value_135 : decode cX2_value 135 = .ok (.iastore, 1) := by decide +kernel
theorem dX2_value_136 : decode cX2_value 136 = .ok (.goto 222, 3) := by decide +kernel
theorem dX2_value_139 : decode cX2_value 139 = .ok (.iload 5, 2) := by decide +kernel
theorem dX2_value_141 : decode cX2_value 141 = .ok (.iconst 1, 1) := by decide +kernel
theorem dX2_value_142 : decode cX2_value 142 = .ok (.if_icmp .le 216, 3) := by decide +kernel
theorem dX2_value_145 : decode cX2_value 145 = .ok (.iinc 5 (-1), 3) := by decide +kernel
theorem dX2_value_148 : decode cX2_value 148 = .ok (.aload_n 0, 1) := by decide +kernel
theorem dX2_value_149 : decode cX2_value 149 = .ok (.getfield 15, 3) := by decide +kernel
theorem dX2_value_152 : decode cX2_value 152 = .ok (.iload 5, 2) := by decide +kernel
theorem dX2_value_154 : decode cX2_value 154 = .ok (.iconst 1, 1) := by decide +kernel
theorem dX2_value_155 : decode cX2_value 155 = .ok (.isub, 1) := by decide +kernel
theorem dX2_value_156 : decode cX2_value 156 = .ok (.iaload, 1) := by decide +kernel
theorem dX2_value_157 : decode cX2_value 157 = .ok (.istore 8, 2) := by decide +kernel
theorem dX2_value_159 : decode cX2_value 159 = .ok (.aload_n 0, 1) := by decide +kernel
theorem dX2_value_160 : decode cX2_value 160 = .ok (.getfield 15, 3) := by decide +kernel
theorem dX2_value_163 : decode cX2_value 163 = .ok (.iload 5, 2) := by decide +kernel
theorem dX2_value_165 : decode cX2_value 165 = .ok (.iaload, 1) := by decide +kernel
theorem dX2_value_166 : decode cX2_value 166 = .ok (.istore 9, 2) := by decide +kernel
theorem dX2_value_168 : decode cX2_value 168 = .ok (.iload 7, 2) := by decide +kernel
theorem dX2_value_170 : decode cX2_value 170 = .ok (.tableswitch 174 (-11) (-6) #[157, 140, 116, 92, 65, 38], 38) := by decide +kernel
theorem dX2_value_208 : decode cX2_value 208 = .ok (.aload_n 0, 1) := by decide +kernel
theorem dX2_value_209 : decode cX2_value 209 = .ok (.getfield 15, 3) := by decide +kernel
theorem dX2_value_212 : decode cX2_value 212 = .ok (.iload 5, 2) := by decide +kernel
theorem dX2_value_214 : decode cX2_value 214 = .ok (.iconst 1, 1) := by decide +kernel
theorem dX2_value_215 : decode cX2_value 215 = .ok (.isub, 1) := by decide +kernel
theorem dX2_value_216 : decode cX2_value 216 = .ok (.iload 8, 2) := by decide +kernel
theorem dX2_value_218 : decode cX2_value 218 = .ok (.ifCond .eq 12, 3) := by decide +kernel
theorem dX2_value_221 : decode cX2_value 221 = .ok (.iload 9, 2) := by decide +kernel
theorem dX2_value_223 : decode cX2_value 223 = .ok (.ifCond .eq 7, 3) := by decide +kernel
theorem dX2_value_226 : decode cX2_value 226 = .ok (.iconst 1, 1) := by decide +kernel
theorem dX2_value_227 : decode cX2_value 227 = .ok (.goto 4, 3) := by decide +kernel
theorem dX2_value_230 : decode cX2_value 230 = .ok (.iconst 0, 1) := by decide +kernel
theorem dX2_value_231 : decode cX2_value 231 = .ok (.iastore, 1) := by decide +kernel
theorem dX2_value_232 : decode cX2_value 232 = .ok (.goto 126, 3) := by decide +kernel
theorem dX2_value_235 : decode cX2_value 235 = .ok (.aload_n 0, 1) := by decide +kernel
theorem dX2_value_236 : decode cX2_value 236 = .ok (.getfield 15, 3) := by decide +kernel
theorem dX2_value_239 : decode cX2_value 239 = .ok (.iload 5, 2) := by decide +kernel
theorem dX2_value_241 : decode cX2_value 241 = .ok (.iconst 1, 1) := by decide +kernel
theorem dX2_value_242 : decode cX2_value 242 = .ok (.isub, 1) := by decide +kernel
theorem dX2_value_243 : decode cX2_value 243 = .ok (.iload 8, 2) := by decide +kernel
theorem dX2_value_245 : decode cX2_value 245 = .ok (.ifCond .ne 8, 3) := by decide +kernel
theorem dX2_value_248 : decode cX2_value 248 = .ok (.iload 9, 2) := by decide +kernel
theorem dX2_value_250 : decode cX2_value 250 = .ok (.ifCond .eq 7, 3) := by decide +kernel
theorem dX2_value_253 : decode cX2_value 253 = .ok (.iconst 1, 1) := by decide +kernel
theorem dX2_value_254 : decode cX2_value 254 = .ok (.goto 4, 3) := by decide +kernel
theorem dX2_value_257 : decode cX2_value 257 = .ok (.iconst 0, 1) := by decide +kernel
theorem dX2_value_258 : decode cX2_value 258 = .ok (.iastore, 1) := by decide +kernel
theorem dX2_value_259 : decode cX2_value 259 = .ok (.goto 99, 3) := by decide +kernel
theorem dX2_value_262 : decode cX2_value 262 = .ok (.aload_n 0, 1) := by decide +kernel
theorem dX2_value_263 : decode cX2_value 263 = .ok (.getfield 15, 3) := by decide +kernel
theorem dX2_value_266 : decode cX2_value 266 = .ok (.iload 5, 2) := by decide +kernel
theorem dX2_value_268 : decode cX2_value 268 = .ok (.iconst 1, 1) := by decide +kernel
theorem dX2_value_269 : decode cX2_value 269 = .ok (.isub, 1) := by decide +kernel
theorem dX2_value_270 : decode cX2_value 270 = .ok (.iload 8, 2) := by decide +kernel
theorem dX2_value_272 : decode cX2_value 272 = .ok (.iload 9, 2) := by decide +kernel
theorem dX2_value_274 : decode cX2_value 274 = .ok (.if_icmp .ge 7, 3) := by decide +kernel
theorem dX2_value_277 : decode cX2_value 277 = .ok (.iconst 1, 1) := by decide +kernel
theorem dX2_value_278 : decode cX2_value 278 = .ok (.goto 4, 3) := by decide +kernel
theorem dX2_value_281 : decode cX2_value 281 = .ok (.iconst 0, 1) := by decide +kernel
theorem dX2_value_282 : decode cX2_value 282 = .ok (.iastore, 1) := by decide +kernel
theorem dX2_value_283 : decode cX2_value 283 = .ok (.goto 75, 3) := by decide +kernel
theorem dX2_value_286 : decode cX2_value 286 = .ok (.aload_n 0, 1) := by decide +kernel
theorem dX2_value_287 : decode cX2_value 287 = .ok (.getfield 15, 3) := by decide +kernel
theorem dX2_value_290 : decode cX2_value 290 = .ok (.iload 5, 2) := by decide +kernel
theorem dX2_value_292 : decode cX2_value 292 = .ok (.iconst 1, 1) := by decide +kernel
theorem dX2_value_293 : decode cX2_value 293 = .ok (.isub, 1) := by decide +kernel
theorem dX2_value_294 : decode cX2_value 294 = .ok (.iload 8, 2) := by decide +kernel
theorem dX2_value_296 : decode cX2_value 296 = .ok (.iload 9, 2) := by decide +kernel
theorem dX2_value_298 : decode cX2_value 298 = .ok (.if_icmp .ne 7, 3) := by decide +kernel
theorem dX2_value_301 : decode cX2_value 301 = .ok (.iconst 1, 1) := by decide +kernel
theorem dX2_value_302 : decode cX2_value 302 = .ok (.goto 4, 3) := by decide +kernel
theorem dX2_value_305 : decode cX2_value 305 = .ok (.iconst 0, 1) := by decide +kernel
theorem dX2_value_306 : decode cX2_value 306 = .ok (.iastore, 1) := by decide +kernel
theorem dX2_value_307 : decode cX2_value 307 = .ok (.goto 51, 3) := by decide +kernel
theorem dX2_value_310 : decode cX2_value 310 = .ok (.aload_n 0, 1) := by decide +kernel
theorem dX2_value_311 : decode cX2_value 311 = .ok (.getfield 15, 3) := by decide +kernel
theorem dX2_value_314 : decode cX2_value 314 = .ok (.iload 5, 2) := by decide +kernel
theorem dX2_value_316 : decode cX2_value 316 = .ok (.iconst 1, 1) := by decide +kernel
theorem dX2_value_317 : decode cX2_value 317 = .ok (.isub, 1) := by decide +kernel
theorem dX2_value_318 : decode cX2_value 318 = .ok (.iload 8, 2) := by decide +kernel
theorem dX2_value_320 : decode cX2_value 320 = .ok (.iload 9, 2) := by decide +kernel
theorem dX2_value_322 : decode cX2_value 322 = .ok (.iadd, 1) := by decide +kernel
theorem dX2_value_323 : decode cX2_value 323 = .ok (.iastore, 1) := by decide +kernel
theorem dX2_value_324 : decode cX2_value 324 = .ok (.goto 34, 3) := by decide +kernel
theorem dX2_value_327 : decode cX2_value 327 = .ok (.aload_n 0, 1) := by decide +kernel
theorem dX2_value_328 : decode cX2_value 328 = .ok (.getfield 15, 3) := by decide +kernel
theorem dX2_value_331 : decode cX2_value 331 = .ok (.iload 5, 2) := by decide +kernel
theorem dX2_value_333 : decode cX2_value 333 = .ok (.iconst 1, 1) := by decide +kernel
theorem dX2_value_334 : decode cX2_value 334 = .ok (.isub, 1) := by decide +kernel
theorem dX2_value_335 : decode cX2_value 335 = .ok (.iload 8, 2) := by decide +kernel
theorem dX2_value_337 : decode cX2_value 337 = .ok (.iload 9, 2) := by decide +kernel
theorem dX2_value_339 : decode cX2_value 339 = .ok (.isub, 1) := by decide +kernel
theorem dX2_value_340 : decode cX2_value 340 = .ok (.iastore, 1) := by decide +kernel
theorem dX2_value_341 : decode cX2_value 341 = .ok (.goto 17, 3) := by decide +kernel
theorem dX2_value_344 : decode cX2_value 344 = .ok (.aload_n 0, 1) := by decide +kernel
theorem dX2_value_345 : decode cX2_value 345 = .ok (.getfield 15, 3) := by decide +kernel
theorem dX2_value_348 : decode cX2_value 348 = .ok (.iload 5, 2) := by decide +kernel
theorem dX2_value_350 : decode cX2_value 350 = .ok (.iconst 1, 1) := by decide +kernel
theorem dX2_value_351 : decode cX2_value 351 = .ok (.isub, 1) := by decide +kernel
theorem dX2_value_352 : decode cX2_value 352 = .ok (.iload 8, 2) := by decide +kernel
theorem dX2_value_354 : decode cX2_value 354 = .ok (.iload 9, 2) := by decide +kernel
theorem dX2_value_356 : decode cX2_value 356 = .ok (.imul, 1) := by decide +kernel
theorem dX2_value_357 : decode cX2_value 357 = .ok (.iastore, 1) := by decide +kernel
theorem dX2_value_358 : decode cX2_value 358 = .ok (.iinc 6 1, 3) := by decide +kernel
theorem dX2_value_361 : decode cX2_value 361 = .ok (.goto (-355), 3) := by decide +kernel
theorem dX2_value_364 : decode cX2_value 364 = .ok (.iload 5, 2) := by decide +kernel
theorem dX2_value_366 : decode cX2_value 366 = .ok (.ifCond .le 12, 3) := by decide +kernel
theorem dX2_value_369 : decode cX2_value 369 = .ok (.aload_n 0, 1) := by decide +kernel
theorem dX2_value_370 : decode cX2_value 370 = .ok (.getfield 15, 3) := by decide +kernel
theorem dX2_value_373 : decode cX2_value 373 = .ok (.iconst 0, 1) := by decide +kernel
theorem dX2_value_374 : decode cX2_value 374 = .ok (.iaload, 1) := by decide +kernel
theorem dX2_value_375 : decode cX2_value 375 = .ok (.goto 4, 3) := by decide +kernel
theorem dX2_value_378 : decode cX2_value 378 = .ok (.iconst 0, 1) := by decide +kernel
theorem dX2_value_379 : decode cX2_value 379 = .ok (.ireturn, 1) := by decide +kernel
theorem dX3_init_0 : decode cX3_init 0 = .ok (.aload_n 0, 1) := by decide +kernel
theorem dX3_init_1 : decode cX3_init 1 = .ok (.invokespecial 3, 3) := by decide +kernel
theorem dX3_init_4 : decode cX3_init 4 = .ok (.aload_n 0, 1) := by decide +kernel
theorem dX3_init_5 : decode cX3_init 5 = .ok (.aload_n 1, 1) := by decide +kernel
theorem dX3_init_6 : decode cX3_init 6 = .ok (.putfield 9, 3) := by decide +kernel
theorem dX3_init_9 : decode cX3_init 9 = .ok (.return_, 1) := by decide +kernel
theorem dX3_readWhole_0 : decode cX3_readWhole 0 = .ok (.aload_n 0, 1) := by decide +kernel
theorem dX3_readWhole_1 : decode cX3_readWhole 1 = .ok (.aload_n 1, 1) := by decide +kernel
theorem dX3_readWhole_2 : decode cX3_readWhole 2 = .ok (.iload_n 2, 1) := by decide +kernel
theorem dX3_readWhole_3 : decode cX3_readWhole 3 = .ok (.invokevirtual 15, 3) := by decide +kernel
theorem dX3_readWhole_6 : decode cX3_readWhole 6 = .ok (.iconst 0, 1) := by decide +kernel
theorem dX3_readWhole_7 : decode cX3_readWhole 7 = .ok (.istore_n 3, 1) := by decide +kernel
theorem dX3_readWhole_8 : decode cX3_readWhole 8 = .ok (.iload_n 3, 1) := by decide +kernel
theorem dX3_readWhole_9 : decode cX3_readWhole 9 = .ok (.sipush 1000, 3) := by decide +kernel
theorem dX3_readWhole_12 : decode cX3_readWhole 12 = .ok (.if_icmp .ge 76, 3) := by decide +kernel
theorem dX3_readWhole_15 : decode cX3_readWhole 15 = .ok (.aload_n 0, 1) := by decide +kernel
theorem dX3_readWhole_16 : decode cX3_readWhole 16 = .ok (.getfield 9, 3) := by decide +kernel
theorem dX3_readWhole_19 : decode cX3_readWhole 19 = .ok (.getfield 19, 3) := by decide +kernel
theorem dX3_readWhole_22 : decode cX3_readWhole 22 = .ok (.getstatic 25, 3) := by decide +kernel
theorem dX3_readWhole_25 : decode cX3_readWhole 25 = .ok (.if_acmp .eq 16, 3) := by decide +kernel
theorem dX3_readWhole_28 : decode cX3_readWhole 28 = .ok (.aload_n 0, 1) := by decide +kernel
theorem dX3_readWhole_29 : decode cX3_readWhole 29 = .ok (.getfield 9, 3) := by decide +kernel
theorem dX3_readWhole_32 : decode cX3_readWhole 32 = .ok (.getfield 19, 3) := by decide +kernel
theorem dX3_readWhole_35 : decode cX3_readWhole 35 = .ok (.getstatic 30, 3) := by decide +kernel
theorem dX3_readWhole_38 : decode cX3_readWhole 38 = .ok (.if_acmp .ne 50, 3) := by decide +kernel
theorem dX3_readWhole_41 : decode cX3_readWhole 41 = .ok (.aload_n 0, 1) := by decide +kernel
theorem dX3_readWhole_42 : decode cX3_readWhole 42 = .ok (.getfield 9, 3) := by decide +kernel
theorem dX3_readWhole_45 : decode cX3_readWhole 45 = .ok (.getfield 19, 3) := by decide +kernel
theorem dX3_readWhole_48 : decode cX3_readWhole 48 = .ok (.getstatic 25, 3) := by decide +kernel
theorem dX3_readWhole_51 : decode cX3_readWhole 51 = .ok (.if_acmp .ne 8, 3) := by decide +kernel
theorem dX3_readWhole_54 : decode cX3_readWhole 54 = .ok (.bipush (-6), 2) := by decide +kernel
theorem dX3_readWhole_56 : decode cX3_readWhole 56 = .ok (.goto 5, 3) := by decide +kernel
theorem dX3_readWhole_59 : decode cX3_readWhole 59 = .ok (.bipush (-7), 2) := by decide +kernel
theorem dX3_readWhole_61 : decode cX3_readWhole 61 = .ok (.istore 4, 2) := by decide +kernel
theorem dX3_readWhole_63 : decode cX3_readWhole 63 = .ok (.aload_n 0, 1) := by decide +kernel
theorem dX3_readWhole_64 : decode cX3_readWhole 64 = .ok (.getfield 9, 3) := by decide +kernel
theorem dX3_readWhole_67 : decode cX3_readWhole 67 = .ok (.invokevirtual 35, 3) := by decide +kernel
theorem dX3_readWhole_70 : decode cX3_readWhole 70 = .ok (.aload_n 0, 1) := by decide +kernel
theorem dX3_readWhole_71 : decode cX3_readWhole 71 = .ok (.aload_n 1, 1) := by decide +kernel
theorem dX3_readWhole_72 : decode cX3_readWhole 72 = .ok (.iload_n 2, 1) := by decide +kernel
theorem dX3_readWhole_73 : decode cX3_readWhole 73 = .ok (.invokevirtual 15, 3) := by decide +kernel
theorem dX3_readWhole_76 : decode cX3_readWhole 76 = .ok (.aload_n 1, 1) := by decide +kernel
theorem dX3_readWhole_77 : decode cX3_readWhole 77 = .ok (.iload 4, 2) := by decide +kernel
theorem dX3_readWhole_79 : decode cX3_readWhole 79 = .ok (.invokevirtual 38, 3) := by decide +kernel
theorem dX3_readWhole_82 : decode cX3_readWhole 82 = .ok (.iinc 3 1, 3) := by decide +kernel
theorem dX3_readWhole_85 : decode cX3_readWhole 85 = .ok (.goto (-77), 3) := by decide +kernel
theorem dX3_readWhole_88 : decode cX3_readWhole 88 = .ok (.return_, 1) := by decide +kernel
theorem dX3_readTest_0 : decode cX3_readTest 0 = .ok (.aload_n 0, 1) := by decide +kernel
theorem dX3_readTest_1 : decode cX3_readTest 1 = .ok (.aload_n 1, 1) := by decide +kernel
theorem dX3_readTest_2 : decode cX3_readTest 2 = .ok (.iload_n 2, 1) := by decide +kernel
theorem dX3_readTest_3 : decode cX3_readTest 3 = .ok (.invokevirtual 42, 3) := by decide +kernel
theorem dX3_readTest_6 : decode cX3_readTest 6 = .ok (.aload_n 0, 1) := by decide +kernel
theorem dX3_readTest_7 : decode cX3_readTest 7 = .ok (.getfield 9, 3) := by decide +kernel
theorem dX3_readTest_10 : decode cX3_readTest 10 = .ok (.bipush 60, 2) := by decide +kernel
theorem dX3_readTest_12 : decode cX3_readTest 12 = .ok (.invokevirtual 45, 3) := by decide +kernel
theorem dX3_readTest_15 : decode cX3_readTest 15 = .ok (.ifCond .ne 15, 3) := by decide +kernel
theorem dX3_readTest_18 : decode cX3_readTest 18 = .ok (.aload_n 0, 1) := by decide +kernel
theorem dX3_readTest_19 : decode cX3_readTest 19 = .ok (.getfield 9, 3) := by decide +kernel
theorem dX3_readTest_22 : decode cX3_readTest 22 = .ok (.bipush 61, 2) := by decide +kernel
theorem dX3_readTest_24 : decode cX3_readTest 24 = .ok (.invokevirtual 45, 3) := by decide +kernel
theorem dX3_readTest_27 : decode cX3_readTest 27 = .ok (.ifCond .eq 41, 3) := by decide +kernel
theorem dX3_readTest_30 : decode cX3_readTest 30 = .ok (.aload_n 0, 1) := by decide +kernel
theorem dX3_readTest_31 : decode cX3_readTest 31 = .ok (.getfield 9, 3) := by decide +kernel
theorem dX3_readTest_34 : decode cX3_readTest 34 = .ok (.bipush 60, 2) := by decide +kernel
theorem dX3_readTest_36 : decode cX3_readTest 36 = .ok (.invokevirtual 45, 3) := by decide +kernel
theorem dX3_readTest_39 : decode cX3_readTest 39 = .ok (.ifCond .eq 8, 3) := by decide +kernel
theorem dX3_readTest_42 : decode cX3_readTest 42 = .ok (.bipush (-8), 2) := by decide +kernel
theorem dX3_readTest_44 : decode cX3_readTest 44 = .ok (.goto 5, 3) := by decide +kernel
theorem dX3_readTest_47 : decode cX3_readTest 47 = .ok (.bipush (-9), 2) := by decide +kernel
theorem dX3_readTest_49 : decode cX3_readTest 49 = .ok (.istore_n 3, 1) := by decide +kernel
theorem dX3_readTest_50 : decode cX3_readTest 50 = .ok (.aload_n 0, 1) := by decide +kernel
theorem dX3_readTest_51 : decode cX3_readTest 51 = .ok (.getfield 9, 3) := by decide +kernel
theorem dX3_readTest_54 : decode cX3_readTest 54 = .ok (.invokevirtual 35, 3) := by decide +kernel
theorem dX3_readTest_57 : decode cX3_readTest 57 = .ok (.aload_n 0, 1) := by decide +kernel
theorem dX3_readTest_58 : decode cX3_readTest 58 = .ok (.aload_n 1, 1) := by decide +kernel
theorem dX3_readTest_59 : decode cX3_readTest 59 = .ok (.iload_n 2, 1) := by decide +kernel
theorem dX3_readTest_60 : decode cX3_readTest 60 = .ok (.invokevirtual 42, 3) := by decide +kernel
theorem dX3_readTest_63 : decode cX3_readTest 63 = .ok (.aload_n 1, 1) := by decide +kernel
theorem dX3_readTest_64 : decode cX3_readTest 64 = .ok (.iload_n 3, 1) := by decide +kernel
theorem dX3_readTest_65 : decode cX3_readTest 65 = .ok (.invokevirtual 38, 3) := by decide +kernel
theorem dX3_readTest_68 : decode cX3_readTest 68 = .ok (.return_, 1) := by decide +kernel
theorem dX3_readSum_0 : decode cX3_readSum 0 = .ok (.aload_n 0, 1) := by decide +kernel
theorem dX3_readSum_1 : decode cX3_readSum 1 = .ok (.aload_n 1, 1) := by decide +kernel
theorem dX3_readSum_2 : decode cX3_readSum 2 = .ok (.iload_n 2, 1) := by decide +kernel
theorem dX3_readSum_3 : decode cX3_readSum 3 = .ok (.invokevirtual 49, 3) := by decide +kernel
theorem dX3_readSum_6 : decode cX3_readSum 6 = .ok (.iconst 0, 1) := by decide +kernel
theorem dX3_readSum_7 : decode cX3_readSum 7 = .ok (.istore_n 3, 1) := by decide +kernel
theorem dX3_readSum_8 : decode cX3_readSum 8 = .ok (.iload_n 3, 1) := by decide +kernel
theorem dX3_readSum_9 : decode cX3_readSum 9 = .ok (.sipush 1000, 3) := by decide +kernel
theorem dX3_readSum_12 : decode cX3_readSum 12 = .ok (.if_icmp .ge 73, 3) := by decide +kernel
theorem dX3_readSum_15 : decode cX3_readSum 15 = .ok (.aload_n 0, 1) := by decide +kernel
theorem dX3_readSum_16 : decode cX3_readSum 16 = .ok (.getfield 9, 3) := by decide +kernel
theorem dX3_readSum_19 : decode cX3_readSum 19 = .ok (.bipush 43, 2) := by decide +kernel
theorem dX3_readSum_21 : decode cX3_readSum 21 = .ok (.invokevirtual 45, 3) := by decide +kernel
theorem dX3_readSum_24 : decode cX3_readSum 24 = .ok (.ifCond .ne 15, 3) := by decide +kernel
theorem dX3_readSum_27 : decode cX3_readSum 27 = .ok (.aload_n 0, 1) := by decide +kernel
theorem dX3_readSum_28 : decode cX3_readSum 28 = .ok (.getfield 9, 3) := by decide +kernel
theorem dX3_readSum_31 : decode cX3_readSum 31 = .ok (.bipush 45, 2) := by decide +kernel
theorem dX3_readSum_33 : decode cX3_readSum 33 = .ok (.invokevirtual 45, 3) := by decide +kernel
theorem dX3_readSum_36 : decode cX3_readSum 36 = .ok (.ifCond .eq 49, 3) := by decide +kernel
theorem dX3_readSum_39 : decode cX3_readSum 39 = .ok (.aload_n 0, 1) := by decide +kernel
theorem dX3_readSum_40 : decode cX3_readSum 40 = .ok (.getfield 9, 3) := by decide +kernel
theorem dX3_readSum_43 : decode cX3_readSum 43 = .ok (.bipush 43, 2) := by decide +kernel
theorem dX3_readSum_45 : decode cX3_readSum 45 = .ok (.invokevirtual 45, 3) := by decide +kernel
theorem dX3_readSum_48 : decode cX3_readSum 48 = .ok (.ifCond .eq 8, 3) := by decide +kernel
theorem dX3_readSum_51 : decode cX3_readSum 51 = .ok (.bipush (-10), 2) := by decide +kernel
theorem dX3_readSum_53 : decode cX3_readSum 53 = .ok (.goto 5, 3) := by decide +kernel
theorem dX3_readSum_56 : decode cX3_readSum 56 = .ok (.bipush (-11), 2) := by decide +kernel
theorem dX3_readSum_58 : decode cX3_readSum 58 = .ok (.istore 4, 2) := by decide +kernel
theorem dX3_readSum_60 : decode cX3_readSum 60 = .ok (.aload_n 0, 1) := by decide +kernel
theorem dX3_readSum_61 : decode cX3_readSum 61 = .ok (.getfield 9, 3) := by decide +kernel
theorem dX3_readSum_64 : decode cX3_readSum 64 = .ok (.invokevirtual 35, 3) := by decide +kernel
theorem dX3_readSum_67 : decode cX3_readSum 67 = .ok (.aload_n 0, 1) := by decide +kernel
theorem dX3_readSum_68 : decode cX3_readSum 68 = .ok (.aload_n 1, 1) := by decide +kernel
theorem dX3_readSum_69 : decode cX3_readSum 69 = .ok (.iload_n 2, 1) := by decide +kernel
theorem dX3_readSum_70 : decode cX3_readSum 70 = .ok (.invokevirtual 49, 3) := by decide +kernel
theorem dX3_readSum_73 : decode cX3_readSum 73 = .ok (.aload_n 1, 1) := by decide +kernel
theorem dX3_readSum_74 : decode cX3_readSum 74 = .ok (.iload 4, 2) := by decide +kernel
theorem dX3_readSum_76 : decode cX3_readSum 76 = .ok (.invokevirtual 38, 3) := by decide +kernel
theorem dX3_readSum_79 : decode cX3_readSum 79 = .ok (.iinc 3 1, 3) := by decide +kernel
theorem dX3_readSum_82 : decode cX3_readSum 82 = .ok (.goto (-74), 3) := by decide +kernel
theorem dX3_readSum_85 : decode cX3_readSum 85 = .ok (.return_, 1) := by decide +kernel
theorem dX3_readProduct_0 : decode cX3_readProduct 0 = .ok (.aload_n 0, 1) := by decide +kernel
theorem dX3_readProduct_1 : decode cX3_readProduct 1 = .ok (.aload_n 1, 1) := by decide +kernel
theorem dX3_readProduct_2 : decode cX3_readProduct 2 = .ok (.iload_n 2, 1) := by decide +kernel
theorem dX3_readProduct_3 : decode cX3_readProduct 3 = .ok (.invokevirtual 52, 3) := by decide +kernel
theorem dX3_readProduct_6 : decode cX3_readProduct 6 = .ok (.iconst 0, 1) := by decide +kernel
theorem dX3_readProduct_7 : decode cX3_readProduct 7 = .ok (.istore_n 3, 1) := by decide +kernel
theorem dX3_readProduct_8 : decode cX3_readProduct 8 = .ok (.iload_n 3, 1) := by decide +kernel
theorem dX3_readProduct_9 : decode cX3_readProduct 9 = .ok (.sipush 1000, 3) := by decide +kernel
theorem dX3_readProduct_12 : decode cX3_readProduct 12 = .ok (.if_icmp .ge 40, 3) := by decide +kernel
theorem dX3_readProduct_15 : decode cX3_readProduct 15 = .ok (.aload_n 0, 1) := by decide +kernel
theorem dX3_readProduct_16 : decode cX3_readProduct 16 = .ok (.getfield 9, 3) := by decide +kernel
theorem dX3_readProduct_19 : decode cX3_readProduct 19 = .ok (.bipush 42, 2) := by decide +kernel
theorem dX3_readProduct_21 : decode cX3_readProduct 21 = .ok (.invokevirtual 45, 3) := by decide +kernel
theorem dX3_readProduct_24 : decode cX3_readProduct 24 = .ok (.ifCond .eq 28, 3) := by decide +kernel
theorem dX3_readProduct_27 : decode cX3_readProduct 27 = .ok (.aload_n 0, 1) := by decide +kernel
theorem dX3_readProduct_28 : decode cX3_readProduct 28 = .ok (.getfield 9, 3) := by decide +kernel
theorem dX3_readProduct_31 : decode cX3_readProduct 31 = .ok (.invokevirtual 35, 3) := by decide +kernel
theorem dX3_readProduct_34 : decode cX3_readProduct 34 = .ok (.aload_n 0, 1) := by decide +kernel
theorem dX3_readProduct_35 : decode cX3_readProduct 35 = .ok (.aload_n 1, 1) := by decide +kernel
theorem dX3_readProduct_36 : decode cX3_readProduct 36 = .ok (.iload_n 2, 1) := by decide +kernel
theorem dX3_readProduct_37 : decode cX3_readProduct 37 = .ok (.invokevirtual 52, 3) := by decide +kernel
theorem dX3_readProduct_40 : decode cX3_readProduct 40 = .ok (.aload_n 1, 1) := by decide +kernel
theorem dX3_readProduct_41 : decode cX3_readProduct 41 = .ok (.bipush (-12), 2) := by decide +kernel
theorem dX3_readProduct_43 : decode cX3_readProduct 43 = .ok (.invokevirtual 38, 3) := by decide +kernel
theorem dX3_readProduct_46 : decode cX3_readProduct 46 = .ok (.iinc 3 1, 3) := by decide +kernel
theorem dX3_readProduct_49 : decode cX3_readProduct 49 = .ok (.goto (-41), 3) := by decide +kernel
theorem dX3_readProduct_52 : decode cX3_readProduct 52 = .ok (.return_, 1) := by decide +kernel
theorem dX3_readPart_0 : decode cX3_readPart 0 = .ok (.aload_n 0, 1) := by decide +kernel
theorem dX3_readPart_1 : decode cX3_readPart 1 = .ok (.getfield 9, 3) := by decide +kernel
theorem dX3_readPart_4 : decode cX3_readPart 4 = .ok (.getfield 19, 3) := by decide +kernel
theorem dX3_readPart_7 : decode cX3_readPart 7 = .ok (.ifnull 21, 3) := by decide +kernel
theorem dX3_readPart_10 : decode cX3_readPart 10 = .ok (.aload_n 0, 1) := by decide +kernel
theorem dX3_readPart_11 : decode cX3_readPart 11 = .ok (.getfield 9, 3) := by decide +kernel
theorem dX3_readPart_14 : decode cX3_readPart 14 = .ok (.getfield 19, 3) := by decide +kernel
theorem dX3_readPart_17 : decode cX3_readPart 17 = .ok (.getfield 55, 3) := by decide +kernel
theorem dX3_readPart_20 : decode cX3_readPart 20 = .ok (.iconst (-1), 1) := by decide +kernel
theorem dX3_readPart_21 : decode cX3_readPart 21 = .ok (.if_icmp .ne 7, 3) := by decide +kernel
theorem dX3_readPart_24 : decode cX3_readPart 24 = .ok (.iconst 1, 1) := by decide +kernel
theorem dX3_readPart_25 : decode cX3_readPart 25 = .ok (.goto 4, 3) := by decide +kernel
theorem dX3_readPart_28 : decode cX3_readPart 28 = .ok (.iconst 0, 1) := by decide +kernel
theorem dX3_readPart_29 : decode cX3_readPart 29 = .ok (.istore_n 3, 1) := by decide +kernel
theorem dX3_readPart_30 : decode cX3_readPart 30 = .ok (.aload_n 0, 1) := by decide +kernel
theorem dX3_readPart_31 : decode cX3_readPart 31 = .ok (.getfield 9, 3) := by decide +kernel
theorem dX3_readPart_34 : decode cX3_readPart 34 = .ok (.getfield 19, 3) := by decide +kernel
theorem dX3_readPart_37 : decode cX3_readPart 37 = .ok (.getstatic 59, 3) := by decide +kernel
theorem dX3_readPart_40 : decode cX3_readPart 40 = .ok (.if_acmp .ne 7, 3) := by decide +kernel
theorem dX3_readPart_43 : decode cX3_readPart 43 = .ok (.iconst 1, 1) := by decide +kernel
theorem dX3_readPart_44 : decode cX3_readPart 44 = .ok (.goto 4, 3) := by decide +kernel
theorem dX3_readPart_47 : decode cX3_readPart 47 = .ok (.iconst 0, 1) := by decide +kernel
theorem dX3_readPart_48 : decode cX3_readPart 48 = .ok (.istore 4, 2) := by decide +kernel
theorem dX3_readPart_50 : decode cX3_readPart 50 = .ok (.aload_n 0, 1) := by decide +kernel
theorem dX3_readPart_51 : decode cX3_readPart 51 = .ok (.getfield 9, 3) := by decide +kernel
theorem dX3_readPart_54 : decode cX3_readPart 54 = .ok (.bipush 40, 2) := by decide +kernel
theorem dX3_readPart_56 : decode cX3_readPart 56 = .ok (.invokevirtual 45, 3) := by decide +kernel
theorem dX3_readPart_59 : decode cX3_readPart 59 = .ok (.istore 5, 2) := by decide +kernel
theorem dX3_readPart_61 : decode cX3_readPart 61 = .ok (.aload_n 0, 1) := by decide +kernel
theorem dX3_readPart_62 : decode cX3_readPart 62 = .ok (.getfield 9, 3) := by decide +kernel
theorem dX3_readPart_65 : decode cX3_readPart 65 = .ok (.getfield 62, 3) := by decide +kernel
theorem dX3_readPart_68 : decode cX3_readPart 68 = .ok (.iconst 2, 1) := by decide +kernel
theorem dX3_readPart_69 : decode cX3_readPart 69 = .ok (.if_icmp .eq 28, 3) := by decide +kernel
theorem dX3_readPart_72 : decode cX3_readPart 72 = .ok (.iload_n 3, 1) := by decide +kernel
theorem dX3_readPart_73 : decode cX3_readPart 73 = .ok (.ifCond .ne 24, 3) := by decide +kernel
theorem dX3_readPart_76 : decode cX3_readPart 76 = .ok (.iload 4, 2) := by decide +kernel
theorem dX3_readPart_78 : decode cX3_readPart 78 = .ok (.ifCond .ne 19, 3) := by decide +kernel
theorem dX3_readPart_81 : decode cX3_readPart 81 = .ok (.iload 5, 2) := by decide +kernel
theorem dX3_readPart_83 : decode cX3_readPart 83 = .ok (.ifCond .ne 14, 3) := by decide +kernel
theorem dX3_readPart_86 : decode cX3_readPart 86 = .ok (.aload_n 0, 1) := by decide +kernel
theorem dX3_readPart_87 : decode cX3_readPart 87 = .ok (.getfield 9, 3) := by decide +kernel
theorem dX3_readPart_90 : decode cX3_readPart 90 = .ok (.iconst 1, 1) := by decide +kernel
theorem dX3_readPart_91 : decode cX3_readPart 91 = .ok (.invokevirtual 65, 3) := by decide +kernel
theorem dX3_readPart_94 : decode cX3_readPart 94 = .ok (.goto 115, 3) := by decide +kernel
theorem dX3_readPart_97 : decode cX3_readPart 97 = .ok (.iload_n 2, 1) := by decide +kernel
theorem dX3_readPart_98 : decode cX3_readPart 98 = .ok (.iconst 5, 1) := by decide +kernel
theorem dX3_readPart_99 : decode cX3_readPart 99 = .ok (.if_icmp .lt 14, 3) := by decide +kernel
theorem dX3_readPart_102 : decode cX3_readPart 102 = .ok (.aload_n 0, 1) := by decide +kernel
theorem dX3_readPart_103 : decode cX3_readPart 103 = .ok (.getfield 9, 3) := by decide +kernel
theorem dX3_readPart_106 : decode cX3_readPart 106 = .ok (.iconst 5, 1) := by decide +kernel
theorem dX3_readPart_107 : decode cX3_readPart 107 = .ok (.invokevirtual 65, 3) := by decide +kernel
theorem dX3_readPart_110 : decode cX3_readPart 110 = .ok (.goto 99, 3) := by decide +kernel
theorem dX3_readPart_113 : decode cX3_readPart 113 = .ok (.iload 4, 2) := by decide +kernel
theorem dX3_readPart_115 : decode cX3_readPart 115 = .ok (.ifCond .eq 27, 3) := by decide +kernel
theorem dX3_readPart_118 : decode cX3_readPart 118 = .ok (.aload_n 0, 1) := by decide +kernel
theorem dX3_readPart_119 : decode cX3_readPart 119 = .ok (.getfield 9, 3) := by decide +kernel
theorem dX3_readPart_122 : decode cX3_readPart 122 = .ok (.invokevirtual 35, 3) := by decide +kernel
theorem dX3_readPart_125 : decode cX3_readPart 125 = .ok (.aload_n 0, 1) := by decide +kernel
theorem dX3_readPart_126 : decode cX3_readPart 126 = .ok (.aload_n 1, 1) := by decide +kernel
theorem dX3_readPart_127 : decode cX3_readPart 127 = .ok (.iload_n 2, 1) := by decide +kernel
theorem dX3_readPart_128 : decode cX3_readPart 128 = .ok (.iconst 1, 1) := by decide +kernel
theorem dX3_readPart_129 : decode cX3_readPart 129 = .ok (.iadd, 1) := by decide +kernel
theorem dX3_readPart_130 : decode cX3_readPart 130 = .ok (.invokevirtual 52, 3) := by decide +kernel
theorem dX3_readPart_133 : decode cX3_readPart 133 = .ok (.aload_n 1, 1) := by decide +kernel
theorem dX3_readPart_134 : decode cX3_readPart 134 = .ok (.bipush (-5), 2) := by decide +kernel
theorem dX3_readPart_136 : decode cX3_readPart 136 = .ok (.invokevirtual 38, 3) := by decide +kernel
theorem dX3_readPart_139 : decode cX3_readPart 139 = .ok (.goto 70, 3) := by decide +kernel
theorem dX3_readPart_142 : decode cX3_readPart 142 = .ok (.iload 5, 2) := by decide +kernel
theorem dX3_readPart_144 : decode cX3_readPart 144 = .ok (.ifCond .eq 30, 3) := by decide +kernel
theorem dX3_readPart_147 : decode cX3_readPart 147 = .ok (.aload_n 0, 1) := by decide +kernel
theorem dX3_readPart_148 : decode cX3_readPart 148 = .ok (.getfield 9, 3) := by decide +kernel
theorem dX3_readPart_151 : decode cX3_readPart 151 = .ok (.invokevirtual 35, 3) := by decide +kernel
theorem dX3_readPart_154 : decode cX3_readPart 154 = .ok (.aload_n 0, 1) := by decide +kernel
theorem dX3_readPart_155 : decode cX3_readPart 155 = .ok (.aload_n 1, 1) := by decide +kernel
theorem dX3_readPart_156 : decode cX3_readPart 156 = .ok (.iload_n 2, 1) := by decide +kernel
theorem dX3_readPart_157 : decode cX3_readPart 157 = .ok (.iconst 1, 1) := by decide +kernel
theorem dX3_readPart_158 : decode cX3_readPart 158 = .ok (.iadd, 1) := by decide +kernel
theorem dX3_readPart_159 : decode cX3_readPart 159 = .ok (.invokevirtual 68, 3) := by decide +kernel
theorem dX3_readPart_162 : decode cX3_readPart 162 = .ok (.aload_n 0, 1) := by decide +kernel
theorem dX3_readPart_163 : decode cX3_readPart 163 = .ok (.getfield 9, 3) := by decide +kernel
theorem dX3_readPart_166 : decode cX3_readPart 166 = .ok (.bipush 41, 2) := by decide +kernel
theorem dX3_readPart_168 : decode cX3_readPart 168 = .ok (.invokevirtual 71, 3) := by decide +kernel
theorem dX3_readPart_171 : decode cX3_readPart 171 = .ok (.goto 38, 3) := by decide +kernel
theorem dX3_readPart_174 : decode cX3_readPart 174 = .ok (.aload_n 1, 1) := by decide +kernel
theorem dX3_readPart_175 : decode cX3_readPart 175 = .ok (.iload_n 3, 1) := by decide +kernel
theorem dX3_readPart_176 : decode cX3_readPart 176 = .ok (.ifCond .eq 16, 3) := by decide +kernel
theorem dX3_readPart_179 : decode cX3_readPart 179 = .ok (.aload_n 0, 1) := by decide +kernel
theorem dX3_readPart_180 : decode cX3_readPart 180 = .ok (.getfield 9, 3) := by decide +kernel
theorem dX3_readPart_183 : decode cX3_readPart 183 = .ok (.getfield 19, 3) := by decide +kernel
theorem dX3_readPart_186 : decode cX3_readPart 186 = .ok (.invokestatic 75, 3) := by decide +kernel
theorem dX3_readPart_189 : decode cX3_readPart 189 = .ok (.goto 10, 3) := by decide +kernel
theorem dX3_readPart_192 : decode cX3_readPart 192 = .ok (.aload_n 0, 1) := by decide +kernel
theorem dX3_readPart_193 : decode cX3_readPart 193 = .ok (.getfield 9, 3) := by decide +kernel
theorem dX3_readPart_196 : decode cX3_readPart 196 = .ok (.getfield 79, 3) := by decide +kernel
theorem dX3_readPart_199 : decode cX3_readPart 199 = .ok (.invokevirtual 38, 3) := by decide +kernel
theorem dX3_readPart_202 : decode cX3_readPart 202 = .ok (.aload_n 0, 1) := by decide +kernel
theorem dX3_readPart_203 : decode cX3_readPart 203 = .ok (.getfield 9, 3) := by decide +kernel
theorem dX3_readPart_206 : decode cX3_readPart 206 = .ok (.invokevirtual 35, 3) := by decide +kernel
theorem dX3_readPart_209 : decode cX3_readPart 209 = .ok (.return_, 1) := by decide +kernel
theorem dX3_factOf_0 : decode cX3_factOf 0 = .ok (.aload_n 0, 1) := by decide +kernel
theorem dX3_factOf_1 : decode cX3_factOf 1 = .ok (.getstatic 82, 3) := by decide +kernel
theorem dX3_factOf_4 : decode cX3_factOf 4 = .ok (.if_acmp .ne 7, 3) := by decide +kernel
theorem dX3_factOf_7 : decode cX3_factOf 7 = .ok (.iconst (-1), 1) := by decide +kernel
theorem dX3_factOf_8 : decode cX3_factOf 8 = .ok (.goto 29, 3) := by decide +kernel
theorem dX3_factOf_11 : decode cX3_factOf 11 = .ok (.aload_n 0, 1) := by decide +kernel
theorem dX3_factOf_12 : decode cX3_factOf 12 = .ok (.getstatic 85, 3) := by decide +kernel
theorem dX3_factOf_15 : decode cX3_factOf 15 = .ok (.if_acmp .ne 8, 3) := by decide +kernel
theorem dX3_factOf_18 : decode cX3_factOf 18 = .ok (.bipush (-2), 2) := by decide +kernel
theorem dX3_factOf_20 : decode cX3_factOf 20 = .ok (.goto 17, 3) := by decide +kernel
theorem dX3_factOf_23 : decode cX3_factOf 23 = .ok (.aload_n 0, 1) := by decide +kernel
theorem dX3_factOf_24 : decode cX3_factOf 24 = .ok (.getstatic 88, 3) := by decide +kernel
theorem dX3_factOf_27 : decode cX3_factOf 27 = .ok (.if_acmp .ne 8, 3) := by decide +kernel
theorem dX3_factOf_30 : decode cX3_factOf 30 = .ok (.bipush (-3), 2) := by decide +kernel
theorem dX3_factOf_32 : decode cX3_factOf 32 = .ok (.goto 5, 3) := by decide +kernel
theorem dX3_factOf_35 : decode cX3_factOf 35 = .ok (.bipush (-4), 2) := by decide +kernel
theorem dX3_factOf_37 : decode cX3_factOf 37 = .ok (.ireturn, 1) := by decide +kernel
theorem dX4_init_0 : decode cX4_init 0 = .ok (.aload_n 0, 1) := by decide +kernel
theorem dX4_init_1 : decode cX4_init 1 = .ok (.invokespecial 3, 3) := by decide +kernel
theorem dX4_init_4 : decode cX4_init 4 = .ok (.aload_n 0, 1) := by decide +kernel
theorem dX4_init_5 : decode cX4_init 5 = .ok (.iconst 4, 1) := by decide +kernel
theorem dX4_init_6 : decode cX4_init 6 = .ok (.newarray .int, 2) := by decide +kernel
theorem dX4_init_8 : decode cX4_init 8 = .ok (.putfield 9, 3) := by decide +kernel
theorem dX4_init_11 : decode cX4_init 11 = .ok (.aload_n 0, 1) := by decide +kernel
theorem dX4_init_12 : decode cX4_init 12 = .ok (.new 15, 3) := by decide +kernel
theorem dX4_init_15 : decode cX4_init 15 = .ok (.dup, 1) := by decide +kernel
theorem dX4_init_16 : decode cX4_init 16 = .ok (.invokespecial 17, 3) := by decide +kernel
theorem dX4_init_19 : decode cX4_init 19 = .ok (.putfield 18, 3) := by decide +kernel
theorem dX4_init_22 : decode cX4_init 22 = .ok (.aload_n 0, 1) := by decide +kernel
theorem dX4_init_23 : decode cX4_init 23 = .ok (.bipush 6, 2) := by decide +kernel
theorem dX4_init_25 : decode cX4_init 25 = .ok (.newarray .long, 2) := by decide +kernel
theorem dX4_init_27 : decode cX4_init 27 = .ok (.putfield 22, 3) := by decide +kernel
theorem dX4_init_30 : decode cX4_init 30 = .ok (.aload_n 0, 1) := by decide +kernel
theorem dX4_init_31 : decode cX4_init 31 = .ok (.bipush 6, 2) := by decide +kernel
theorem dX4_init_33 : decode cX4_init 33 = .ok (.newarray .int, 2) := by decide +kernel
theorem dX4_init_35 : decode cX4_init 35 = .ok (.putfield 26, 3) := by decide +kernel
theorem dX4_init_38 : decode cX4_init 38 = .ok (.aload_n 0, 1) := by decide +kernel
theorem dX4_init_39 : decode cX4_init 39 = .ok (.iconst 5, 1) := by decide +kernel
theorem dX4_init_40 : decode cX4_init 40 = .ok (.anewarray 29, 3) := by decide +kernel
theorem dX4_init_43 : decode cX4_init 43 = .ok (.putfield 31, 3) := by decide +kernel
theorem dX4_init_46 : decode cX4_init 46 = .ok (.aload_n 0, 1) := by decide +kernel
theorem dX4_init_47 : decode cX4_init 47 = .ok (.bipush 6, 2) := by decide +kernel
theorem dX4_init_49 : decode cX4_init 49 = .ok (.anewarray 35, 3) := by decide +kernel
theorem dX4_init_52 : decode cX4_init 52 = .ok (.putfield 37, 3) := by decide +kernel
theorem dX4_init_55 : decode cX4_init 55 = .ok (.aload_n 0, 1) := by decide +kernel
theorem dX4_init_56 : decode cX4_init 56 = .ok (.invokevirtual 41, 3) := by decide +kernel
theorem dX4_init_59 : decode cX4_init 59 = .ok (.iconst 0, 1) := by decide +kernel
theorem dX4_init_60 : decode cX4_init 60 = .ok (.istore_n 1, 1) := by decide +kernel
theorem dX4_init_61 : decode cX4_init 61 = .ok (.iload_n 1, 1) := by decide +kernel
theorem dX4_init_62 : decode cX4_init 62 = .ok (.aload_n 0, 1) := by decide +kernel
theorem dX4_init_63 : decode cX4_init 63 = .ok (.getfield 31, 3) := by decide +kernel
theorem dX4_init_66 : decode cX4_init 66 = .ok (.arraylength, 1) := by decide +kernel
theorem dX4_init_67 : decode cX4_init 67 = .ok (.if_icmp .ge 22, 3) := by decide +kernel
theorem dX4_init_70 : decode cX4_init 70 = .ok (.aload_n 0, 1) := by decide +kernel
theorem dX4_init_71 : decode cX4_init 71 = .ok (.getfield 31, 3) := by decide +kernel
theorem dX4_init_74 : decode cX4_init 74 = .ok (.iload_n 1, 1) := by decide +kernel
theorem dX4_init_75 : decode cX4_init 75 = .ok (.new 29, 3) := by decide +kernel
theorem dX4_init_78 : decode cX4_init 78 = .ok (.dup, 1) := by decide +kernel
theorem dX4_init_79 : decode cX4_init 79 = .ok (.invokespecial 44, 3) := by decide +kernel
theorem dX4_init_82 : decode cX4_init 82 = .ok (.aastore, 1) := by decide +kernel
theorem dX4_init_83 : decode cX4_init 83 = .ok (.iinc 1 1, 3) := by decide +kernel
theorem dX4_init_86 : decode cX4_init 86 = .ok (.goto (-25), 3) := by decide +kernel
theorem dX4_init_89 : decode cX4_init 89 = .ok (.iconst 0, 1) := by decide +kernel
theorem dX4_init_90 : decode cX4_init 90 = .ok (.istore_n 1, 1) := by decide +kernel
theorem dX4_init_91 : decode cX4_init 91 = .ok (.iload_n 1, 1) := by decide +kernel
theorem dX4_init_92 : decode cX4_init 92 = .ok (.aload_n 0, 1) := by decide +kernel
theorem dX4_init_93 : decode cX4_init 93 = .ok (.getfield 37, 3) := by decide +kernel
theorem dX4_init_96 : decode cX4_init 96 = .ok (.arraylength, 1) := by decide +kernel
theorem dX4_init_97 : decode cX4_init 97 = .ok (.if_icmp .ge 22, 3) := by decide +kernel
theorem dX4_init_100 : decode cX4_init 100 = .ok (.aload_n 0, 1) := by decide +kernel
theorem dX4_init_101 : decode cX4_init 101 = .ok (.getfield 37, 3) := by decide +kernel
theorem dX4_init_104 : decode cX4_init 104 = .ok (.iload_n 1, 1) := by decide +kernel
theorem dX4_init_105 : decode cX4_init 105 = .ok (.new 35, 3) := by decide +kernel
theorem dX4_init_108 : decode cX4_init 108 = .ok (.dup, 1) := by decide +kernel
theorem dX4_init_109 : decode cX4_init 109 = .ok (.invokespecial 45, 3) := by decide +kernel
theorem dX4_init_112 : decode cX4_init 112 = .ok (.aastore, 1) := by decide +kernel
theorem dX4_init_113 : decode cX4_init 113 = .ok (.iinc 1 1, 3) := by decide +kernel
theorem dX4_init_116 : decode cX4_init 116 = .ok (.goto (-25), 3) := by decide +kernel
theorem dX4_init_119 : decode cX4_init 119 = .ok (.return_, 1) := by decide +kernel
theorem dX4_clear_0 : decode cX4_clear 0 = .ok (.aload_n 0, 1) := by decide +kernel
theorem dX4_clear_1 : decode cX4_clear 1 = .ok (.sipush 600, 3) := by decide +kernel
theorem dX4_clear_4 : decode cX4_clear 4 = .ok (.putfield 46, 3) := by decide +kernel
theorem dX4_clear_7 : decode cX4_clear 7 = .ok (.aload_n 0, 1) := by decide +kernel
theorem dX4_clear_8 : decode cX4_clear 8 = .ok (.sipush 540, 3) := by decide +kernel
theorem dX4_clear_11 : decode cX4_clear 11 = .ok (.putfield 50, 3) := by decide +kernel
theorem dX4_clear_14 : decode cX4_clear 14 = .ok (.aload_n 0, 1) := by decide +kernel
theorem dX4_clear_15 : decode cX4_clear 15 = .ok (.iconst 2, 1) := by decide +kernel
theorem dX4_clear_16 : decode cX4_clear 16 = .ok (.putfield 53, 3) := by decide +kernel
theorem dX4_clear_19 : decode cX4_clear 19 = .ok (.aload_n 0, 1) := by decide +kernel
theorem dX4_clear_20 : decode cX4_clear 20 = .ok (.bipush 10, 2) := by decide +kernel
theorem dX4_clear_22 : decode cX4_clear 22 = .ok (.putfield 56, 3) := by decide +kernel
theorem dX4_clear_25 : decode cX4_clear 25 = .ok (.aload_n 0, 1) := by decide +kernel
theorem dX4_clear_26 : decode cX4_clear 26 = .ok (.bipush 60, 2) := by decide +kernel
theorem dX4_clear_28 : decode cX4_clear 28 = .ok (.putfield 59, 3) := by decide +kernel
theorem dX4_clear_31 : decode cX4_clear 31 = .ok (.aload_n 0, 1) := by decide +kernel
theorem dX4_clear_32 : decode cX4_clear 32 = .ok (.bipush 30, 2) := by decide +kernel
theorem dX4_clear_34 : decode cX4_clear 34 = .ok (.putfield 62, 3) := by decide +kernel
theorem dX4_clear_37 : decode cX4_clear 37 = .ok (.aload_n 0, 1) := by decide +kernel
theorem dX4_clear_38 : decode cX4_clear 38 = .ok (.iconst 5, 1) := by decide +kernel
theorem dX4_clear_39 : decode cX4_clear 39 = .ok (.putfield 65, 3) := by decide +kernel
theorem dX4_clear_42 : decode cX4_clear 42 = .ok (.aload_n 0, 1) := by decide +kernel
theorem dX4_clear_43 : decode cX4_clear 43 = .ok (.getfield 9, 3) := by decide +kernel
theorem dX4_clear_46 : decode cX4_clear 46 = .ok (.iconst 0, 1) := by decide +kernel
theorem dX4_clear_47 : decode cX4_clear 47 = .ok (.bipush 10, 2) := by decide +kernel
theorem dX4_clear_49 : decode cX4_clear 49 = .ok (.iastore, 1) := by decide +kernel
theorem dX4_clear_50 : decode cX4_clear 50 = .ok (.aload_n 0, 1) := by decide +kernel
theorem dX4_clear_51 : decode cX4_clear 51 = .ok (.getfield 9, 3) := by decide +kernel
theorem dX4_clear_54 : decode cX4_clear 54 = .ok (.iconst 1, 1) := by decide +kernel
theorem dX4_clear_55 : decode cX4_clear 55 = .ok (.iconst 0, 1) := by decide +kernel
theorem dX4_clear_56 : decode cX4_clear 56 = .ok (.iastore, 1) := by decide +kernel
theorem dX4_clear_57 : decode cX4_clear 57 = .ok (.aload_n 0, 1) := by decide +kernel
theorem dX4_clear_58 : decode cX4_clear 58 = .ok (.getfield 9, 3) := by decide +kernel
theorem dX4_clear_61 : decode cX4_clear 61 = .ok (.iconst 2, 1) := by decide +kernel
theorem dX4_clear_62 : decode cX4_clear 62 = .ok (.iconst 0, 1) := by decide +kernel
theorem dX4_clear_63 : decode cX4_clear 63 = .ok (.iastore, 1) := by decide +kernel
theorem dX4_clear_64 : decode cX4_clear 64 = .ok (.aload_n 0, 1) := by decide +kernel
theorem dX4_clear_65 : decode cX4_clear 65 = .ok (.getfield 9, 3) := by decide +kernel
theorem dX4_clear_68 : decode cX4_clear 68 = .ok (.iconst 3, 1) := by decide +kernel
theorem dX4_clear_69 : decode cX4_clear 69 = .ok (.iconst 0, 1) := by decide +kernel
theorem dX4_clear_70 : decode cX4_clear 70 = .ok (.iastore, 1) := by decide +kernel
theorem dX4_clear_71 : decode cX4_clear 71 = .ok (.aload_n 0, 1) := by decide +kernel
theorem dX4_clear_72 : decode cX4_clear 72 = .ok (.getfield 18, 3) := by decide +kernel
theorem dX4_clear_75 : decode cX4_clear 75 = .ok (.iconst 0, 1) := by decide +kernel
theorem dX4_clear_76 : decode cX4_clear 76 = .ok (.putfield 68, 3) := by decide +kernel
theorem dX4_clear_79 : decode cX4_clear 79 = .ok (.aload_n 0, 1) := by decide +kernel
theorem dX4_clear_80 : decode cX4_clear 80 = .ok (.iconst 0, 1) := by decide +kernel
theorem dX4_clear_81 : decode cX4_clear 81 = .ok (.putfield 71, 3) := by decide +kernel
theorem dX4_clear_84 : decode cX4_clear 84 = .ok (.aload_n 0, 1) := by decide +kernel
theorem dX4_clear_85 : decode cX4_clear 85 = .ok (.iconst 0, 1) := by decide +kernel
theorem dX4_clear_86 : decode cX4_clear 86 = .ok (.putfield 74, 3) := by decide +kernel
theorem dX4_clear_89 : decode cX4_clear 89 = .ok (.aload_n 0, 1) := by decide +kernel
theorem dX4_clear_90 : decode cX4_clear 90 = .ok (.iconst 0, 1) := by decide +kernel
theorem dX4_clear_91 : decode cX4_clear 91 = .ok (.putfield 77, 3) := by decide +kernel
theorem dX4_clear_94 : decode cX4_clear 94 = .ok (.return_, 1) := by decide +kernel
theorem dX4_coachOf_0 : decode cX4_coachOf 0 = .ok (.iconst 0, 1) := by decide +kernel
theorem dX4_coachOf_1 : decode cX4_coachOf 1 = .ok (.istore_n 3, 1) := by decide +kernel
theorem dX4_coachOf_2 : decode cX4_coachOf 2 = .ok (.iload_n 3, 1) := by decide +kernel
theorem dX4_coachOf_3 : decode cX4_coachOf 3 = .ok (.aload_n 0, 1) := by decide +kernel
theorem dX4_coachOf_4 : decode cX4_coachOf 4 = .ok (.getfield 71, 3) := by decide +kernel
theorem dX4_coachOf_7 : decode cX4_coachOf 7 = .ok (.if_icmp .ge 22, 3) := by decide +kernel
theorem dX4_coachOf_10 : decode cX4_coachOf 10 = .ok (.aload_n 0, 1) := by decide +kernel
theorem dX4_coachOf_11 : decode cX4_coachOf 11 = .ok (.getfield 22, 3) := by decide +kernel
theorem dX4_coachOf_14 : decode cX4_coachOf 14 = .ok (.iload_n 3, 1) := by decide +kernel
theorem dX4_coachOf_15 : decode cX4_coachOf 15 = .ok (.laload, 1) := by decide +kernel
theorem dX4_coachOf_16 : decode cX4_coachOf 16 = .ok (.lload_n 1, 1) := by decide +kernel
theorem dX4_coachOf_17 : decode cX4_coachOf 17 = .ok (.lcmp, 1) := by decide +kernel
theorem dX4_coachOf_18 : decode cX4_coachOf 18 = .ok (.ifCond .ne 5, 3) := by decide +kernel
theorem dX4_coachOf_21 : decode cX4_coachOf 21 = .ok (.iload_n 3, 1) := by decide +kernel
theorem dX4_coachOf_22 : decode cX4_coachOf 22 = .ok (.ireturn, 1) := by decide +kernel
theorem dX4_coachOf_23 : decode cX4_coachOf 23 = .ok (.iinc 3 1, 3) := by decide +kernel
theorem dX4_coachOf_26 : decode cX4_coachOf 26 = .ok (.goto (-24), 3) := by decide +kernel
theorem dX4_coachOf_29 : decode cX4_coachOf 29 = .ok (.iconst (-1), 1) := by decide +kernel
theorem dX4_coachOf_30 : decode cX4_coachOf 30 = .ok (.ireturn, 1) := by decide +kernel
theorem dX4_thingOf_0 : decode cX4_thingOf 0 = .ok (.iconst 0, 1) := by decide +kernel
theorem dX4_thingOf_1 : decode cX4_thingOf 1 = .ok (.istore_n 3, 1) := by decide +kernel
theorem dX4_thingOf_2 : decode cX4_thingOf 2 = .ok (.iload_n 3, 1) := by decide +kernel
theorem dX4_thingOf_3 : decode cX4_thingOf 3 = .ok (.aload_n 0, 1) := by decide +kernel
theorem dX4_thingOf_4 : decode cX4_thingOf 4 = .ok (.getfield 74, 3) := by decide +kernel
theorem dX4_thingOf_7 : decode cX4_thingOf 7 = .ok (.if_icmp .ge 25, 3) := by decide +kernel
theorem dX4_thingOf_10 : decode cX4_thingOf 10 = .ok (.aload_n 0, 1) := by decide +kernel
theorem dX4_thingOf_11 : decode cX4_thingOf 11 = .ok (.getfield 31, 3) := by decide +kernel
theorem dX4_thingOf_14 : decode cX4_thingOf 14 = .ok (.iload_n 3, 1) := by decide +kernel
theorem dX4_thingOf_15 : decode cX4_thingOf 15 = .ok (.aaload, 1) := by decide +kernel
theorem dX4_thingOf_16 : decode cX4_thingOf 16 = .ok (.getfield 80, 3) := by decide +kernel
theorem dX4_thingOf_19 : decode cX4_thingOf 19 = .ok (.lload_n 1, 1) := by decide +kernel
theorem dX4_thingOf_20 : decode cX4_thingOf 20 = .ok (.lcmp, 1) := by decide +kernel
theorem dX4_thingOf_21 : decode cX4_thingOf 21 = .ok (.ifCond .ne 5, 3) := by decide +kernel
theorem dX4_thingOf_24 : decode cX4_thingOf 24 = .ok (.iload_n 3, 1) := by decide +kernel
theorem dX4_thingOf_25 : decode cX4_thingOf 25 = .ok (.ireturn, 1) := by decide +kernel
theorem dX4_thingOf_26 : decode cX4_thingOf 26 = .ok (.iinc 3 1, 3) := by decide +kernel
theorem dX4_thingOf_29 : decode cX4_thingOf 29 = .ok (.goto (-27), 3) := by decide +kernel
theorem dX4_thingOf_32 : decode cX4_thingOf 32 = .ok (.iconst (-1), 1) := by decide +kernel
theorem dX4_thingOf_33 : decode cX4_thingOf 33 = .ok (.ireturn, 1) := by decide +kernel
theorem dX4_buyerOf_0 : decode cX4_buyerOf 0 = .ok (.iconst 0, 1) := by decide +kernel
theorem dX4_buyerOf_1 : decode cX4_buyerOf 1 = .ok (.istore_n 3, 1) := by decide +kernel
theorem dX4_buyerOf_2 : decode cX4_buyerOf 2 = .ok (.iload_n 3, 1) := by decide +kernel
theorem dX4_buyerOf_3 : decode cX4_buyerOf 3 = .ok (.aload_n 0, 1) := by decide +kernel
theorem dX4_buyerOf_4 : decode cX4_buyerOf 4 = .ok (.getfield 77, 3) := by decide +kernel
theorem dX4_buyerOf_7 : decode cX4_buyerOf 7 = .ok (.if_icmp .ge 25, 3) := by decide +kernel
theorem dX4_buyerOf_10 : decode cX4_buyerOf 10 = .ok (.aload_n 0, 1) := by decide +kernel
theorem dX4_buyerOf_11 : decode cX4_buyerOf 11 = .ok (.getfield 37, 3) := by decide +kernel
theorem dX4_buyerOf_14 : decode cX4_buyerOf 14 = .ok (.iload_n 3, 1) := by decide +kernel
theorem dX4_buyerOf_15 : decode cX4_buyerOf 15 = .ok (.aaload, 1) := by decide +kernel
theorem dX4_buyerOf_16 : decode cX4_buyerOf 16 = .ok (.getfield 84, 3) := by decide +kernel
theorem dX4_buyerOf_19 : decode cX4_buyerOf 19 = .ok (.lload_n 1, 1) := by decide +kernel
theorem dX4_buyerOf_20 : decode cX4_buyerOf 20 = .ok (.lcmp, 1) := by decide +kernel
theorem dX4_buyerOf_21 : decode cX4_buyerOf 21 = .ok (.ifCond .ne 5, 3) := by decide +kernel
theorem dX4_buyerOf_24 : decode cX4_buyerOf 24 = .ok (.iload_n 3, 1) := by decide +kernel
theorem dX4_buyerOf_25 : decode cX4_buyerOf 25 = .ok (.ireturn, 1) := by decide +kernel
theorem dX4_buyerOf_26 : decode cX4_buyerOf 26 = .ok (.iinc 3 1, 3) := by decide +kernel
theorem dX4_buyerOf_29 : decode cX4_buyerOf 29 = .ok (.goto (-27), 3) := by decide +kernel
theorem dX4_buyerOf_32 : decode cX4_buyerOf 32 = .ok (.iconst (-1), 1) := by decide +kernel
theorem dX4_buyerOf_33 : decode cX4_buyerOf 33 = .ok (.ireturn, 1) := by decide +kernel
theorem dX4_farOf_0 : decode cX4_farOf 0 = .ok (.aload_n 0, 1) := by decide +kernel
theorem dX4_farOf_1 : decode cX4_farOf 1 = .ok (.getfield 26, 3) := by decide +kernel
theorem dX4_farOf_4 : decode cX4_farOf 4 = .ok (.aload_n 0, 1) := by decide +kernel
theorem dX4_farOf_5 : decode cX4_farOf 5 = .ok (.getfield 37, 3) := by decide +kernel
theorem dX4_farOf_8 : decode cX4_farOf 8 = .ok (.iload_n 1, 1) := by decide +kernel
theorem dX4_farOf_9 : decode cX4_farOf 9 = .ok (.aaload, 1) := by decide +kernel
theorem dX4_farOf_10 : decode cX4_farOf 10 = .ok (.getfield 85, 3) := by decide +kernel
theorem dX4_farOf_13 : decode cX4_farOf 13 = .ok (.iaload, 1) := by decide +kernel
theorem dX4_farOf_14 : decode cX4_farOf 14 = .ok (.istore_n 3, 1) := by decide +kernel
theorem dX4_farOf_15 : decode cX4_farOf 15 = .ok (.iload_n 3, 1) := by decide +kernel
theorem dX4_farOf_16 : decode cX4_farOf 16 = .ok (.iload_n 2, 1) := by decide +kernel
theorem dX4_farOf_17 : decode cX4_farOf 17 = .ok (.if_icmp .ge 9, 3) := by decide +kernel
theorem dX4_farOf_20 : decode cX4_farOf 20 = .ok (.iload_n 2, 1) := by decide +kernel
theorem dX4_farOf_21 : decode cX4_farOf 21 = .ok (.iload_n 3, 1) := by decide +kernel
theorem dX4_farOf_22 : decode cX4_farOf 22 = .ok (.isub, 1) := by decide +kernel
theorem dX4_farOf_23 : decode cX4_farOf 23 = .ok (.goto 6, 3) := by decide +kernel
theorem dX4_farOf_26 : decode cX4_farOf 26 = .ok (.iload_n 3, 1) := by decide +kernel
theorem dX4_farOf_27 : decode cX4_farOf 27 = .ok (.iload_n 2, 1) := by decide +kernel
theorem dX4_farOf_28 : decode cX4_farOf 28 = .ok (.isub, 1) := by decide +kernel
theorem dX4_farOf_29 : decode cX4_farOf 29 = .ok (.ireturn, 1) := by decide +kernel
theorem dX4_wayOf_0 : decode cX4_wayOf 0 = .ok (.aload_n 0, 1) := by decide +kernel
theorem dX4_wayOf_1 : decode cX4_wayOf 1 = .ok (.iload_n 1, 1) := by decide +kernel
theorem dX4_wayOf_2 : decode cX4_wayOf 2 = .ok (.iload_n 2, 1) := by decide +kernel
theorem dX4_wayOf_3 : decode cX4_wayOf 3 = .ok (.invokevirtual 88, 3) := by decide +kernel
theorem dX4_wayOf_6 : decode cX4_wayOf 6 = .ok (.aload_n 0, 1) := by decide +kernel
theorem dX4_wayOf_7 : decode cX4_wayOf 7 = .ok (.getfield 65, 3) := by decide +kernel
theorem dX4_wayOf_10 : decode cX4_wayOf 10 = .ok (.imul, 1) := by decide +kernel
theorem dX4_wayOf_11 : decode cX4_wayOf 11 = .ok (.bipush 10, 2) := by decide +kernel
theorem dX4_wayOf_13 : decode cX4_wayOf 13 = .ok (.idiv, 1) := by decide +kernel
theorem dX4_wayOf_14 : decode cX4_wayOf 14 = .ok (.ireturn, 1) := by decide +kernel
theorem dX4_goesAt_0 : decode cX4_goesAt 0 = .ok (.iconst 0, 1) := by decide +kernel
theorem dX4_goesAt_1 : decode cX4_goesAt 1 = .ok (.iload_n 2, 1) := by decide +kernel
theorem dX4_goesAt_2 : decode cX4_goesAt 2 = .ok (.aload_n 0, 1) := by decide +kernel
theorem dX4_goesAt_3 : decode cX4_goesAt 3 = .ok (.getfield 46, 3) := by decide +kernel
theorem dX4_goesAt_6 : decode cX4_goesAt 6 = .ok (.iload_n 1, 1) := by decide +kernel
theorem dX4_goesAt_7 : decode cX4_goesAt 7 = .ok (.isub, 1) := by decide +kernel
theorem dX4_goesAt_8 : decode cX4_goesAt 8 = .ok (.invokestatic 92, 3) := by decide +kernel
theorem dX4_goesAt_11 : decode cX4_goesAt 11 = .ok (.invokestatic 97, 3) := by decide +kernel
theorem dX4_goesAt_14 : decode cX4_goesAt 14 = .ok (.ireturn, 1) := by decide +kernel
theorem dX4_secsFor_0 : decode cX4_secsFor 0 = .ok (.iconst 0, 1) := by decide +kernel
theorem dX4_secsFor_1 : decode cX4_secsFor 1 = .ok (.istore_n 2, 1) := by decide +kernel
theorem dX4_secsFor_2 : decode cX4_secsFor 2 = .ok (.iconst 0, 1) := by decide +kernel
theorem dX4_secsFor_3 : decode cX4_secsFor 3 = .ok (.istore_n 3, 1) := by decide +kernel
theorem dX4_secsFor_4 : decode cX4_secsFor 4 = .ok (.iload_n 3, 1) := by decide +kernel
theorem dX4_secsFor_5 : decode cX4_secsFor 5 = .ok (.aload_n 0, 1) := by decide +kernel
theorem dX4_secsFor_6 : decode cX4_secsFor 6 = .ok (.getfield 37, 3) := by decide +kernel
theorem dX4_secsFor_9 : decode cX4_secsFor 9 = .ok (.iload_n 1, 1) := by decide +kernel
theorem dX4_secsFor_10 : decode cX4_secsFor 10 = .ok (.aaload, 1) := by decide +kernel
theorem dX4_secsFor_11 : decode cX4_secsFor 11 = .ok (.getfield 100, 3) := by decide +kernel
theorem dX4_secsFor_14 : decode cX4_secsFor 14 = .ok (.if_icmp .ge 31, 3) := by decide +kernel
theorem dX4_secsFor_17 : decode cX4_secsFor 17 = .ok (.iload_n 2, 1) := by decide +kernel
theorem dX4_secsFor_18 : decode cX4_secsFor 18 = .ok (.aload_n 0, 1) := by decide +kernel
theorem dX4_secsFor_19 : decode cX4_secsFor 19 = .ok (.getfield 31, 3) := by decide +kernel
theorem dX4_secsFor_22 : decode cX4_secsFor 22 = .ok (.aload_n 0, 1) := by decide +kernel
theorem dX4_secsFor_23 : decode cX4_secsFor 23 = .ok (.getfield 37, 3) := by decide +kernel
theorem dX4_secsFor_26 : decode cX4_secsFor 26 = .ok (.iload_n 1, 1) := by decide +kernel
theorem dX4_secsFor_27 : decode cX4_secsFor 27 = .ok (.aaload, 1) := by decide +kernel
theorem dX4_secsFor_28 : decode cX4_secsFor 28 = .ok (.getfield 103, 3) := by decide +kernel
theorem dX4_secsFor_31 : decode cX4_secsFor 31 = .ok (.iload_n 3, 1) := by decide +kernel
theorem dX4_secsFor_32 : decode cX4_secsFor 32 = .ok (.iaload, 1) := by decide +kernel
theorem dX4_secsFor_33 : decode cX4_secsFor 33 = .ok (.aaload, 1) := by decide +kernel
theorem dX4_secsFor_34 : decode cX4_secsFor 34 = .ok (.getfield 106, 3) := by decide +kernel
theorem dX4_secsFor_37 : decode cX4_secsFor 37 = .ok (.iadd, 1) := by decide +kernel
theorem dX4_secsFor_38 : decode cX4_secsFor 38 = .ok (.istore_n 2, 1) := by decide +kernel
theorem dX4_secsFor_39 : decode cX4_secsFor 39 = .ok (.iinc 3 1, 3) := by decide +kernel
theorem dX4_secsFor_42 : decode cX4_secsFor 42 = .ok (.goto (-38), 3) := by decide +kernel
theorem dX4_secsFor_45 : decode cX4_secsFor 45 = .ok (.iload_n 2, 1) := by decide +kernel
theorem dX4_secsFor_46 : decode cX4_secsFor 46 = .ok (.ireturn, 1) := by decide +kernel
theorem dX4_priceFor_0 : decode cX4_priceFor 0 = .ok (.iconst 0, 1) := by decide +kernel
theorem dX4_priceFor_1 : decode cX4_priceFor 1 = .ok (.istore_n 2, 1) := by decide +kernel
theorem dX4_priceFor_2 : decode cX4_priceFor 2 = .ok (.iconst 0, 1) := by decide +kernel
theorem dX4_priceFor_3 : decode cX4_priceFor 3 = .ok (.istore_n 3, 1) := by decide +kernel
theorem dX4_priceFor_4 : decode cX4_priceFor 4 = .ok (.iload_n 3, 1) := by decide +kernel
theorem dX4_priceFor_5 : decode cX4_priceFor 5 = .ok (.aload_n 0, 1) := by decide +kernel
theorem dX4_priceFor_6 : decode cX4_priceFor 6 = .ok (.getfield 37, 3) := by decide +kernel
theorem dX4_priceFor_9 : decode cX4_priceFor 9 = .ok (.iload_n 1, 1) := by decide +kernel
theorem dX4_priceFor_10 : decode cX4_priceFor 10 = .ok (.aaload, 1) := by decide +kernel
theorem dX4_priceFor_11 : decode cX4_priceFor 11 = .ok (.getfield 100, 3) := by decide +kernel
theorem dX4_priceFor_14 : decode cX4_priceFor 14 = .ok (.if_icmp .ge 31, 3) := by decide +kernel
theorem dX4_priceFor_17 : decode cX4_priceFor 17 = .ok (.iload_n 2, 1) := by decide +kernel
theorem dX4_priceFor_18 : decode cX4_priceFor 18 = .ok (.aload_n 0, 1) := by decide +kernel
theorem dX4_priceFor_19 : decode cX4_priceFor 19 = .ok (.getfield 31, 3) := by decide +kernel
theorem dX4_priceFor_22 : decode cX4_priceFor 22 = .ok (.aload_n 0, 1) := by decide +kernel
theorem dX4_priceFor_23 : decode cX4_priceFor 23 = .ok (.getfield 37, 3) := by decide +kernel
theorem dX4_priceFor_26 : decode cX4_priceFor 26 = .ok (.iload_n 1, 1) := by decide +kernel
theorem dX4_priceFor_27 : decode cX4_priceFor 27 = .ok (.aaload, 1) := by decide +kernel
theorem dX4_priceFor_28 : decode cX4_priceFor 28 = .ok (.getfield 103, 3) := by decide +kernel
theorem dX4_priceFor_31 : decode cX4_priceFor 31 = .ok (.iload_n 3, 1) := by decide +kernel
theorem dX4_priceFor_32 : decode cX4_priceFor 32 = .ok (.iaload, 1) := by decide +kernel
theorem dX4_priceFor_33 : decode cX4_priceFor 33 = .ok (.aaload, 1) := by decide +kernel
theorem dX4_priceFor_34 : decode cX4_priceFor 34 = .ok (.getfield 109, 3) := by decide +kernel
theorem dX4_priceFor_37 : decode cX4_priceFor 37 = .ok (.iadd, 1) := by decide +kernel
theorem dX4_priceFor_38 : decode cX4_priceFor 38 = .ok (.istore_n 2, 1) := by decide +kernel
theorem dX4_priceFor_39 : decode cX4_priceFor 39 = .ok (.iinc 3 1, 3) := by decide +kernel
theorem dX4_priceFor_42 : decode cX4_priceFor 42 = .ok (.goto (-38), 3) := by decide +kernel
theorem dX4_priceFor_45 : decode cX4_priceFor 45 = .ok (.iload_n 2, 1) := by decide +kernel
theorem dX4_priceFor_46 : decode cX4_priceFor 46 = .ok (.ireturn, 1) := by decide +kernel
theorem dX5_init_0 : decode cX5_init 0 = .ok (.aload_n 0, 1) := by decide +kernel
theorem dX5_init_1 : decode cX5_init 1 = .ok (.invokespecial 3, 3) := by decide +kernel
theorem dX5_init_4 : decode cX5_init 4 = .ok (.aload_n 0, 1) := by decide +kernel
theorem dX5_init_5 : decode cX5_init 5 = .ok (.aload_n 1, 1) := by decide +kernel
theorem dX5_init_6 : decode cX5_init 6 = .ok (.putfield 9, 3) := by decide +kernel
theorem dX5_init_9 : decode cX5_init 9 = .ok (.aload_n 0, 1) := by decide +kernel
theorem dX5_init_10 : decode cX5_init 10 = .ok (.new 15, 3) := by decide +kernel
theorem dX5_init_13 : decode cX5_init 13 = .ok (.dup, 1) := by decide +kernel
theorem dX5_init_14 : decode cX5_init 14 = .ok (.aload_n 1, 1) := by decide +kernel
theorem dX5_init_15 : decode cX5_init 15 = .ok (.invokespecial 17, 3) := by decide +kernel
theorem dX5_init_18 : decode cX5_init 18 = .ok (.putfield 20, 3) := by decide +kernel
theorem dX5_init_21 : decode cX5_init 21 = .ok (.return_, 1) := by decide +kernel
theorem dX5_read_0 : decode cX5_read 0 = .ok (.aload_n 1, 1) := by decide +kernel
theorem dX5_read_1 : decode cX5_read 1 = .ok (.invokevirtual 24, 3) := by decide +kernel
theorem dX5_read_4 : decode cX5_read 4 = .ok (.aload_n 0, 1) := by decide +kernel
theorem dX5_read_5 : decode cX5_read 5 = .ok (.iconst 0, 1) := by decide +kernel
theorem dX5_read_6 : decode cX5_read 6 = .ok (.putfield 29, 3) := by decide +kernel
theorem dX5_read_9 : decode cX5_read 9 = .ok (.aload_n 0, 1) := by decide +kernel
theorem dX5_read_10 : decode cX5_read 10 = .ok (.getfield 9, 3) := by decide +kernel
theorem dX5_read_13 : decode cX5_read 13 = .ok (.invokevirtual 33, 3) := by decide +kernel
theorem dX5_read_16 : decode cX5_read 16 = .ok (.iconst 0, 1) := by decide +kernel
theorem dX5_read_17 : decode cX5_read 17 = .ok (.istore_n 2, 1) := by decide +kernel
theorem dX5_read_18 : decode cX5_read 18 = .ok (.iload_n 2, 1) := by decide +kernel
theorem dX5_read_19 : decode cX5_read 19 = .ok (.sipush 1000, 3) := by decide +kernel
theorem dX5_read_22 : decode cX5_read 22 = .ok (.if_icmp .ge 24, 3) := by decide +kernel
theorem dX5_read_25 : decode cX5_read 25 = .ok (.aload_n 0, 1) := by decide +kernel
theorem dX5_read_26 : decode cX5_read 26 = .ok (.getfield 9, 3) := by decide +kernel
theorem dX5_read_29 : decode cX5_read 29 = .ok (.invokevirtual 38, 3) := by decide +kernel
theorem dX5_read_32 : decode cX5_read 32 = .ok (.ifCond .eq 14, 3) := by decide +kernel
theorem dX5_read_35 : decode cX5_read 35 = .ok (.aload_n 0, 1) := by decide +kernel
theorem dX5_read_36 : decode cX5_read 36 = .ok (.aload_n 1, 1) := by decide +kernel
theorem dX5_read_37 : decode cX5_read 37 = .ok (.invokevirtual 42, 3) := by decide +kernel
theorem dX5_read_40 : decode cX5_read 40 = .ok (.iinc 2 1, 3) := by decide +kernel
theorem dX5_read_43 : decode cX5_read 43 = .ok (.goto (-25), 3) := by decide +kernel
theorem dX5_read_46 : decode cX5_read 46 = .ok (.aload_n 0, 1) := by decide +kernel
theorem dX5_read_47 : decode cX5_read 47 = .ok (.getfield 9, 3) := by decide +kernel
theorem dX5_read_50 : decode cX5_read 50 = .ok (.invokevirtual 46, 3) := by decide +kernel
theorem dX5_read_53 : decode cX5_read 53 = .ok (.ireturn, 1) := by decide +kernel
theorem dX5_readLine_0 : decode cX5_readLine 0 = .ok (.aload_n 0, 1) := by decide +kernel
theorem dX5_readLine_1 : decode cX5_readLine 1 = .ok (.getfield 9, 3) := by decide +kernel
theorem dX5_readLine_4 : decode cX5_readLine 4 = .ok (.getfield 50, 3) := by decide +kernel
theorem dX5_readLine_7 : decode cX5_readLine 7 = .ok (.astore_n 2, 1) := by decide +kernel
theorem dX5_readLine_8 : decode cX5_readLine 8 = .ok (.aload_n 2, 1) := by decide +kernel
theorem dX5_readLine_9 : decode cX5_readLine 9 = .ok (.getstatic 54, 3) := by decide +kernel
theorem dX5_readLine_12 : decode cX5_readLine 12 = .ok (.if_acmp .ne 11, 3) := by decide +kernel
theorem dX5_readLine_15 : decode cX5_readLine 15 = .ok (.aload_n 0, 1) := by decide +kernel
theorem dX5_readLine_16 : decode cX5_readLine 16 = .ok (.aload_n 1, 1) := by decide +kernel
theorem dX5_readLine_17 : decode cX5_readLine 17 = .ok (.invokevirtual 59, 3) := by decide +kernel
theorem dX5_readLine_20 : decode cX5_readLine 20 = .ok (.goto 141, 3) := by decide +kernel
theorem dX5_readLine_23 : decode cX5_readLine 23 = .ok (.aload_n 2, 1) := by decide +kernel
theorem dX5_readLine_24 : decode cX5_readLine 24 = .ok (.getstatic 62, 3) := by decide +kernel
theorem dX5_readLine_27 : decode cX5_readLine 27 = .ok (.if_acmp .ne 11, 3) := by decide +kernel
theorem dX5_readLine_30 : decode cX5_readLine 30 = .ok (.aload_n 0, 1) := by decide +kernel
theorem dX5_readLine_31 : decode cX5_readLine 31 = .ok (.aload_n 1, 1) := by decide +kernel
theorem dX5_readLine_32 : decode cX5_readLine 32 = .ok (.invokevirtual 65, 3) := by decide +kernel
theorem dX5_readLine_35 : decode cX5_readLine 35 = .ok (.goto 126, 3) := by decide +kernel
theorem dX5_readLine_38 : decode cX5_readLine 38 = .ok (.aload_n 2, 1) := by decide +kernel
theorem dX5_readLine_39 : decode cX5_readLine 39 = .ok (.getstatic 68, 3) := by decide +kernel
theorem dX5_readLine_42 : decode cX5_readLine 42 = .ok (.if_acmp .ne 11, 3) := by decide +kernel
theorem dX5_readLine_45 : decode cX5_readLine 45 = .ok (.aload_n 0, 1) := by decide +kernel
theorem dX5_readLine_46 : decode cX5_readLine 46 = .ok (.aload_n 1, 1) := by decide +kernel
theorem dX5_readLine_47 : decode cX5_readLine 47 = .ok (.invokevirtual 71, 3) := by decide +kernel
theorem dX5_readLine_50 : decode cX5_readLine 50 = .ok (.goto 111, 3) := by decide +kernel
theorem dX5_readLine_53 : decode cX5_readLine 53 = .ok (.aload_n 2, 1) := by decide +kernel
theorem dX5_readLine_54 : decode cX5_readLine 54 = .ok (.ifnull 10, 3) := by decide +kernel
theorem dX5_readLine_57 : decode cX5_readLine 57 = .ok (.aload_n 2, 1) := by decide +kernel
theorem dX5_readLine_58 : decode cX5_readLine 58 = .ok (.getfield 74, 3) := by decide +kernel
theorem dX5_readLine_61 : decode cX5_readLine 61 = .ok (.ifCond .gt 14, 3) := by decide +kernel
theorem dX5_readLine_64 : decode cX5_readLine 64 = .ok (.aload_n 0, 1) := by decide +kernel
theorem dX5_readLine_65 : decode cX5_readLine 65 = .ok (.getfield 9, 3) := by decide +kernel
theorem dX5_readLine_68 : decode cX5_readLine 68 = .ok (.iconst 1, 1) := by decide +kernel
theorem dX5_readLine_69 : decode cX5_readLine 69 = .ok (.invokevirtual 77, 3) := by decide +kernel
theorem dX5_readLine_72 : decode cX5_readLine 72 = .ok (.goto 89, 3) := by decide +kernel
theorem dX5_readLine_75 : decode cX5_readLine 75 = .ok (.aload_n 0, 1) := by decide +kernel
theorem dX5_readLine_76 : decode cX5_readLine 76 = .ok (.getfield 29, 3) := by decide +kernel
theorem dX5_readLine_79 : decode cX5_readLine 79 = .ok (.aload_n 2, 1) := by decide +kernel
theorem dX5_readLine_80 : decode cX5_readLine 80 = .ok (.getfield 74, 3) := by decide +kernel
theorem dX5_readLine_83 : decode cX5_readLine 83 = .ok (.iand, 1) := by decide +kernel
theorem dX5_readLine_84 : decode cX5_readLine 84 = .ok (.ifCond .eq 14, 3) := by decide +kernel
theorem dX5_readLine_87 : decode cX5_readLine 87 = .ok (.aload_n 0, 1) := by decide +kernel
theorem dX5_readLine_88 : decode cX5_readLine 88 = .ok (.getfield 9, 3) := by decide +kernel
theorem dX5_readLine_91 : decode cX5_readLine 91 = .ok (.iconst 3, 1) := by decide +kernel
theorem dX5_readLine_92 : decode cX5_readLine 92 = .ok (.invokevirtual 77, 3) := by decide +kernel
theorem dX5_readLine_95 : decode cX5_readLine 95 = .ok (.goto 66, 3) := by decide +kernel
theorem dX5_readLine_98 : decode cX5_readLine 98 = .ok (.aload_n 0, 1) := by decide +kernel
theorem dX5_readLine_99 : decode cX5_readLine 99 = .ok (.dup, 1) := by decide +kernel
theorem dX5_readLine_100 : decode cX5_readLine 100 = .ok (.getfield 29, 3) := by decide +kernel
theorem dX5_readLine_103 : decode cX5_readLine 103 = .ok (.aload_n 2, 1) := by decide +kernel
theorem dX5_readLine_104 : decode cX5_readLine 104 = .ok (.getfield 74, 3) := by decide +kernel
theorem dX5_readLine_107 : decode cX5_readLine 107 = .ok (.ior, 1) := by decide +kernel
theorem dX5_readLine_108 : decode cX5_readLine 108 = .ok (.putfield 29, 3) := by decide +kernel
theorem dX5_readLine_111 : decode cX5_readLine 111 = .ok (.aload_n 0, 1) := by decide +kernel
theorem dX5_readLine_112 : decode cX5_readLine 112 = .ok (.getfield 9, 3) := by decide +kernel
theorem dX5_readLine_115 : decode cX5_readLine 115 = .ok (.invokevirtual 81, 3) := by decide +kernel
theorem dX5_readLine_118 : decode cX5_readLine 118 = .ok (.aload_n 2, 1) := by decide +kernel
theorem dX5_readLine_119 : decode cX5_readLine 119 = .ok (.getstatic 84, 3) := by decide +kernel
theorem dX5_readLine_122 : decode cX5_readLine 122 = .ok (.if_acmp .ne 11, 3) := by decide +kernel
theorem dX5_readLine_125 : decode cX5_readLine 125 = .ok (.aload_n 0, 1) := by decide +kernel
theorem dX5_readLine_126 : decode cX5_readLine 126 = .ok (.aload_n 1, 1) := by decide +kernel
theorem dX5_readLine_127 : decode cX5_readLine 127 = .ok (.invokevirtual 87, 3) := by decide +kernel
theorem dX5_readLine_130 : decode cX5_readLine 130 = .ok (.goto 31, 3) := by decide +kernel
theorem dX5_readLine_133 : decode cX5_readLine 133 = .ok (.aload_n 2, 1) := by decide +kernel
theorem dX5_readLine_134 : decode cX5_readLine 134 = .ok (.getstatic 90, 3) := by decide +kernel
theorem dX5_readLine_137 : decode cX5_readLine 137 = .ok (.if_acmp .ne 18, 3) := by decide +kernel
theorem dX5_readLine_140 : decode cX5_readLine 140 = .ok (.aload_n 0, 1) := by decide +kernel
theorem dX5_readLine_141 : decode cX5_readLine 141 = .ok (.getfield 20, 3) := by decide +kernel
theorem dX5_readLine_144 : decode cX5_readLine 144 = .ok (.aload_n 1, 1) := by decide +kernel
theorem dX5_readLine_145 : decode cX5_readLine 145 = .ok (.getfield 93, 3) := by decide +kernel
theorem dX5_readLine_148 : decode cX5_readLine 148 = .ok (.iconst 0, 1) := by decide +kernel
theorem dX5_readLine_149 : decode cX5_readLine 149 = .ok (.invokevirtual 97, 3) := by decide +kernel
theorem dX5_readLine_152 : decode cX5_readLine 152 = .ok (.goto 9, 3) := by decide +kernel
theorem dX5_readLine_155 : decode cX5_readLine 155 = .ok (.aload_n 0, 1) := by decide +kernel
theorem dX5_readLine_156 : decode cX5_readLine 156 = .ok (.aload_n 1, 1) := by decide +kernel
theorem dX5_readLine_157 : decode cX5_readLine 157 = .ok (.aload_n 2, 1) := by decide +kernel
theorem dX5_readLine_158 : decode cX5_readLine 158 = .ok (.invokevirtual 101, 3) := by decide +kernel
theorem dX5_readLine_161 : decode cX5_readLine 161 = .ok (.aload_n 0, 1) := by decide +kernel
theorem dX5_readLine_162 : decode cX5_readLine 162 = .ok (.getfield 9, 3) := by decide +kernel
theorem dX5_readLine_165 : decode cX5_readLine 165 = .ok (.bipush 59, 2) := by decide +kernel
theorem dX5_readLine_167 : decode cX5_readLine 167 = .ok (.invokevirtual 105, 3) := by decide +kernel
theorem dX5_readLine_170 : decode cX5_readLine 170 = .ok (.return_, 1) := by decide +kernel
theorem dX5_readOnce_0 : decode cX5_readOnce 0 = .ok (.aload_n 2, 1) := by decide +kernel
theorem dX5_readOnce_1 : decode cX5_readOnce 1 = .ok (.getstatic 109, 3) := by decide +kernel
theorem dX5_readOnce_4 : decode cX5_readOnce 4 = .ok (.if_acmp .ne 48, 3) := by decide +kernel
theorem dX5_readOnce_7 : decode cX5_readOnce 7 = .ok (.aload_n 1, 1) := by decide +kernel
theorem dX5_readOnce_8 : decode cX5_readOnce 8 = .ok (.aload_n 0, 1) := by decide +kernel
theorem dX5_readOnce_9 : decode cX5_readOnce 9 = .ok (.getfield 9, 3) := by decide +kernel
theorem dX5_readOnce_12 : decode cX5_readOnce 12 = .ok (.bipush 60, 2) := by decide +kernel
theorem dX5_readOnce_14 : decode cX5_readOnce 14 = .ok (.sipush 900, 3) := by decide +kernel
theorem dX5_readOnce_17 : decode cX5_readOnce 17 = .ok (.invokevirtual 112, 3) := by decide +kernel
theorem dX5_readOnce_20 : decode cX5_readOnce 20 = .ok (.putfield 116, 3) := by decide +kernel
theorem dX5_readOnce_23 : decode cX5_readOnce 23 = .ok (.aload_n 0, 1) := by decide +kernel
theorem dX5_readOnce_24 : decode cX5_readOnce 24 = .ok (.getfield 9, 3) := by decide +kernel
theorem dX5_readOnce_27 : decode cX5_readOnce 27 = .ok (.getstatic 119, 3) := by decide +kernel
theorem dX5_readOnce_30 : decode cX5_readOnce 30 = .ok (.invokevirtual 122, 3) := by decide +kernel
theorem dX5_readOnce_33 : decode cX5_readOnce 33 = .ok (.aload_n 1, 1) := by decide +kernel
theorem dX5_readOnce_34 : decode cX5_readOnce 34 = .ok (.aload_n 0, 1) := by decide +kernel
theorem dX5_readOnce_35 : decode cX5_readOnce 35 = .ok (.getfield 9, 3) := by decide +kernel
theorem dX5_readOnce_38 : decode cX5_readOnce 38 = .ok (.iconst 1, 1) := by decide +kernel
theorem dX5_readOnce_39 : decode cX5_readOnce 39 = .ok (.aload_n 1, 1) := by decide +kernel
theorem dX5_readOnce_40 : decode cX5_readOnce 40 = .ok (.getfield 116, 3) := by decide +kernel
theorem dX5_readOnce_43 : decode cX5_readOnce 43 = .ok (.invokevirtual 112, 3) := by decide +kernel
theorem dX5_readOnce_46 : decode cX5_readOnce 46 = .ok (.putfield 126, 3) := by decide +kernel
theorem dX5_readOnce_49 : decode cX5_readOnce 49 = .ok (.goto 112, 3) := by decide +kernel
theorem dX5_readOnce_52 : decode cX5_readOnce 52 = .ok (.aload_n 2, 1) := by decide +kernel
theorem dX5_readOnce_53 : decode cX5_readOnce 53 = .ok (.getstatic 129, 3) := by decide +kernel
theorem dX5_readOnce_56 : decode cX5_readOnce 56 = .ok (.if_acmp .ne 19, 3) := by decide +kernel
theorem dX5_readOnce_59 : decode cX5_readOnce 59 = .ok (.aload_n 1, 1) := by decide +kernel
theorem dX5_readOnce_60 : decode cX5_readOnce 60 = .ok (.aload_n 0, 1) := by decide +kernel
theorem dX5_readOnce_61 : decode cX5_readOnce 61 = .ok (.getfield 9, 3) := by decide +kernel
theorem dX5_readOnce_64 : decode cX5_readOnce 64 = .ok (.iconst 1, 1) := by decide +kernel
theorem dX5_readOnce_65 : decode cX5_readOnce 65 = .ok (.iconst 2, 1) := by decide +kernel
theorem dX5_readOnce_66 : decode cX5_readOnce 66 = .ok (.invokevirtual 112, 3) := by decide +kernel
theorem dX5_readOnce_69 : decode cX5_readOnce 69 = .ok (.putfield 132, 3) := by decide +kernel
theorem dX5_readOnce_72 : decode cX5_readOnce 72 = .ok (.goto 89, 3) := by decide +kernel
theorem dX5_readOnce_75 : decode cX5_readOnce 75 = .ok (.aload_n 2, 1) := by decide +kernel
theorem dX5_readOnce_76 : decode cX5_readOnce 76 = .ok (.getstatic 135, 3) := by decide +kernel
theorem dX5_readOnce_79 : decode cX5_readOnce 79 = .ok (.if_acmp .ne 20, 3) := by decide +kernel
theorem dX5_readOnce_82 : decode cX5_readOnce 82 = .ok (.aload_n 1, 1) := by decide +kernel
theorem dX5_readOnce_83 : decode cX5_readOnce 83 = .ok (.aload_n 0, 1) := by decide +kernel
theorem dX5_readOnce_84 : decode cX5_readOnce 84 = .ok (.getfield 9, 3) := by decide +kernel
theorem dX5_readOnce_87 : decode cX5_readOnce 87 = .ok (.iconst 0, 1) := by decide +kernel
theorem dX5_readOnce_88 : decode cX5_readOnce 88 = .ok (.bipush 60, 2) := by decide +kernel
theorem dX5_readOnce_90 : decode cX5_readOnce 90 = .ok (.invokevirtual 112, 3) := by decide +kernel
theorem dX5_readOnce_93 : decode cX5_readOnce 93 = .ok (.putfield 138, 3) := by decide +kernel
theorem dX5_readOnce_96 : decode cX5_readOnce 96 = .ok (.goto 65, 3) := by decide +kernel
theorem dX5_readOnce_99 : decode cX5_readOnce 99 = .ok (.aload_n 2, 1) := by decide +kernel
theorem dX5_readOnce_100 : decode cX5_readOnce 100 = .ok (.getstatic 141, 3) := by decide +kernel
theorem dX5_readOnce_103 : decode cX5_readOnce 103 = .ok (.if_acmp .ne 20, 3) := by decide +kernel
theorem dX5_readOnce_106 : decode cX5_readOnce 106 = .ok (.aload_n 1, 1) := by decide +kernel
theorem dX5_readOnce_107 : decode cX5_readOnce 107 = .ok (.aload_n 0, 1) := by decide +kernel
theorem dX5_readOnce_108 : decode cX5_readOnce 108 = .ok (.getfield 9, 3) := by decide +kernel
theorem dX5_readOnce_111 : decode cX5_readOnce 111 = .ok (.iconst 0, 1) := by decide +kernel
theorem dX5_readOnce_112 : decode cX5_readOnce 112 = .ok (.bipush 99, 2) := by decide +kernel
theorem dX5_readOnce_114 : decode cX5_readOnce 114 = .ok (.invokevirtual 112, 3) := by decide +kernel
theorem dX5_readOnce_117 : decode cX5_readOnce 117 = .ok (.putfield 144, 3) := by decide +kernel
theorem dX5_readOnce_120 : decode cX5_readOnce 120 = .ok (.goto 41, 3) := by decide +kernel
theorem dX5_readOnce_123 : decode cX5_readOnce 123 = .ok (.aload_n 2, 1) := by decide +kernel
theorem dX5_readOnce_124 : decode cX5_readOnce 124 = .ok (.getstatic 147, 3) := by decide +kernel
theorem dX5_readOnce_127 : decode cX5_readOnce 127 = .ok (.if_acmp .ne 20, 3) := by decide +kernel
theorem dX5_readOnce_130 : decode cX5_readOnce 130 = .ok (.aload_n 1, 1) := by decide +kernel
theorem dX5_readOnce_131 : decode cX5_readOnce 131 = .ok (.aload_n 0, 1) := by decide +kernel
theorem dX5_readOnce_132 : decode cX5_readOnce 132 = .ok (.getfield 9, 3) := by decide +kernel
theorem dX5_readOnce_135 : decode cX5_readOnce 135 = .ok (.iconst 1, 1) := by decide +kernel
theorem dX5_readOnce_136 : decode cX5_readOnce 136 = .ok (.bipush 120, 2) := by decide +kernel
theorem dX5_readOnce_138 : decode cX5_readOnce 138 = .ok (.invokevirtual 112, 3) := by decide +kernel
theorem dX5_readOnce_141 : decode cX5_readOnce 141 = .ok (.putfield 150, 3) := by decide +kernel
theorem dX5_readOnce_144 : decode cX5_readOnce 144 = .ok (.goto 17, 3) := by decide +kernel
theorem dX5_readOnce_147 : decode cX5_readOnce 147 = .ok (.aload_n 1, 1) := by decide +kernel
theorem dX5_readOnce_148 : decode cX5_readOnce 148 = .ok (.aload_n 0, 1) := by decide +kernel
theorem dX5_readOnce_149 : decode cX5_readOnce 149 = .ok (.getfield 9, 3) := by decide +kernel
theorem dX5_readOnce_152 : decode cX5_readOnce 152 = .ok (.iconst 1, 1) := by decide +kernel
theorem dX5_readOnce_153 : decode cX5_readOnce 153 = .ok (.bipush 30, 2) := by decide +kernel
theorem dX5_readOnce_155 : decode cX5_readOnce 155 = .ok (.invokevirtual 112, 3) := by decide +kernel
theorem dX5_readOnce_158 : decode cX5_readOnce 158 = .ok (.putfield 153, 3) := by decide +kernel
theorem dX5_readOnce_161 : decode cX5_readOnce 161 = .ok (.return_, 1) := by decide +kernel
theorem dX5_readLate_0 : decode cX5_readLate 0 = .ok (.bipush 10, 2) := by decide +kernel
theorem dX5_readLate_2 : decode cX5_readLate 2 = .ok (.istore_n 2, 1) := by decide +kernel
theorem dX5_readLate_3 : decode cX5_readLate 3 = .ok (.iconst 0, 1) := by decide +kernel
theorem dX5_readLate_4 : decode cX5_readLate 4 = .ok (.istore_n 3, 1) := by decide +kernel
theorem dX5_readLate_5 : decode cX5_readLate 5 = .ok (.iload_n 3, 1) := by decide +kernel
theorem dX5_readLate_6 : decode cX5_readLate 6 = .ok (.iconst 3, 1) := by decide +kernel
theorem dX5_readLate_7 : decode cX5_readLate 7 = .ok (.if_icmp .ge 34, 3) := by decide +kernel
theorem dX5_readLate_10 : decode cX5_readLate 10 = .ok (.aload_n 1, 1) := by decide +kernel
theorem dX5_readLate_11 : decode cX5_readLate 11 = .ok (.getfield 156, 3) := by decide +kernel
theorem dX5_readLate_14 : decode cX5_readLate 14 = .ok (.iload_n 3, 1) := by decide +kernel
theorem dX5_readLate_15 : decode cX5_readLate 15 = .ok (.aload_n 0, 1) := by decide +kernel
theorem dX5_readLate_16 : decode cX5_readLate 16 = .ok (.getfield 9, 3) := by decide +kernel
theorem dX5_readLate_19 : decode cX5_readLate 19 = .ok (.iconst 0, 1) := by decide +kernel
theorem dX5_readLate_20 : decode cX5_readLate 20 = .ok (.bipush 10, 2) := by decide +kernel
theorem dX5_readLate_22 : decode cX5_readLate 22 = .ok (.invokevirtual 112, 3) := by decide +kernel
theorem dX5_readLate_25 : decode cX5_readLate 25 = .ok (.iastore, 1) := by decide +kernel
theorem dX5_readLate_26 : decode cX5_readLate 26 = .ok (.iload_n 2, 1) := by decide +kernel
theorem dX5_readLate_27 : decode cX5_readLate 27 = .ok (.aload_n 1, 1) := by decide +kernel
theorem dX5_readLate_28 : decode cX5_readLate 28 = .ok (.getfield 156, 3) := by decide +kernel
theorem dX5_readLate_31 : decode cX5_readLate 31 = .ok (.iload_n 3, 1) := by decide +kernel
theorem dX5_readLate_32 : decode cX5_readLate 32 = .ok (.iaload, 1) := by decide +kernel
theorem dX5_readLate_33 : decode cX5_readLate 33 = .ok (.isub, 1) := by decide +kernel
theorem dX5_readLate_34 : decode cX5_readLate 34 = .ok (.istore_n 2, 1) := by decide +kernel
theorem dX5_readLate_35 : decode cX5_readLate 35 = .ok (.iinc 3 1, 3) := by decide +kernel
theorem dX5_readLate_38 : decode cX5_readLate 38 = .ok (.goto (-33), 3) := by decide +kernel
theorem dX5_readLate_41 : decode cX5_readLate 41 = .ok (.aload_n 1, 1) := by decide +kernel
theorem dX5_readLate_42 : decode cX5_readLate 42 = .ok (.getfield 156, 3) := by decide +kernel
theorem dX5_readLate_45 : decode cX5_readLate 45 = .ok (.iconst 3, 1) := by decide +kernel
theorem dX5_readLate_46 : decode cX5_readLate 46 = .ok (.aload_n 0, 1) := by decide +kernel
theorem dX5_readLate_47 : decode cX5_readLate 47 = .ok (.getfield 9, 3) := by decide +kernel
theorem dX5_readLate_50 : decode cX5_readLate 50 = .ok (.iload_n 2, 1) := by decide +kernel
theorem dX5_readLate_51 : decode cX5_readLate 51 = .ok (.iload_n 2, 1) := by decide +kernel
theorem dX5_readLate_52 : decode cX5_readLate 52 = .ok (.invokevirtual 112, 3) := by decide +kernel
theorem dX5_readLate_55 : decode cX5_readLate 55 = .ok (.iastore, 1) := by decide +kernel
theorem dX5_readLate_56 : decode cX5_readLate 56 = .ok (.return_, 1) := by decide +kernel
theorem dX5_readCoach_0 : decode cX5_readCoach 0 = .ok (.aload_n 1, 1) := by decide +kernel
theorem dX5_readCoach_1 : decode cX5_readCoach 1 = .ok (.getfield 160, 3) := by decide +kernel
theorem dX5_readCoach_4 : decode cX5_readCoach 4 = .ok (.bipush 6, 2) := by decide +kernel
theorem dX5_readCoach_6 : decode cX5_readCoach 6 = .ok (.if_icmp .lt 12, 3) := by decide +kernel
theorem dX5_readCoach_9 : decode cX5_readCoach 9 = .ok (.aload_n 0, 1) := by decide +kernel
theorem dX5_readCoach_10 : decode cX5_readCoach 10 = .ok (.getfield 9, 3) := by decide +kernel
theorem dX5_readCoach_13 : decode cX5_readCoach 13 = .ok (.iconst 5, 1) := by decide +kernel
theorem dX5_readCoach_14 : decode cX5_readCoach 14 = .ok (.invokevirtual 77, 3) := by decide +kernel
theorem dX5_readCoach_17 : decode cX5_readCoach 17 = .ok (.return_, 1) := by decide +kernel
theorem dX5_readCoach_18 : decode cX5_readCoach 18 = .ok (.aload_n 0, 1) := by decide +kernel
theorem dX5_readCoach_19 : decode cX5_readCoach 19 = .ok (.getfield 9, 3) := by decide +kernel
theorem dX5_readCoach_22 : decode cX5_readCoach 22 = .ok (.invokevirtual 81, 3) := by decide +kernel
theorem dX5_readCoach_25 : decode cX5_readCoach 25 = .ok (.aload_n 1, 1) := by decide +kernel
theorem dX5_readCoach_26 : decode cX5_readCoach 26 = .ok (.getfield 163, 3) := by decide +kernel
theorem dX5_readCoach_29 : decode cX5_readCoach 29 = .ok (.aload_n 1, 1) := by decide +kernel
theorem dX5_readCoach_30 : decode cX5_readCoach 30 = .ok (.getfield 160, 3) := by decide +kernel
theorem dX5_readCoach_33 : decode cX5_readCoach 33 = .ok (.aload_n 0, 1) := by decide +kernel
theorem dX5_readCoach_34 : decode cX5_readCoach 34 = .ok (.aload_n 1, 1) := by decide +kernel
theorem dX5_readCoach_35 : decode cX5_readCoach 35 = .ok (.invokevirtual 167, 3) := by decide +kernel
theorem dX5_readCoach_38 : decode cX5_readCoach 38 = .ok (.lastore, 1) := by decide +kernel
theorem dX5_readCoach_39 : decode cX5_readCoach 39 = .ok (.aload_n 0, 1) := by decide +kernel
theorem dX5_readCoach_40 : decode cX5_readCoach 40 = .ok (.getfield 9, 3) := by decide +kernel
theorem dX5_readCoach_43 : decode cX5_readCoach 43 = .ok (.getstatic 171, 3) := by decide +kernel
theorem dX5_readCoach_46 : decode cX5_readCoach 46 = .ok (.invokevirtual 122, 3) := by decide +kernel
theorem dX5_readCoach_49 : decode cX5_readCoach 49 = .ok (.aload_n 1, 1) := by decide +kernel
theorem dX5_readCoach_50 : decode cX5_readCoach 50 = .ok (.getfield 174, 3) := by decide +kernel
theorem dX5_readCoach_53 : decode cX5_readCoach 53 = .ok (.aload_n 1, 1) := by decide +kernel
theorem dX5_readCoach_54 : decode cX5_readCoach 54 = .ok (.getfield 160, 3) := by decide +kernel
theorem dX5_readCoach_57 : decode cX5_readCoach 57 = .ok (.aload_n 0, 1) := by decide +kernel
theorem dX5_readCoach_58 : decode cX5_readCoach 58 = .ok (.getfield 9, 3) := by decide +kernel
theorem dX5_readCoach_61 : decode cX5_readCoach 61 = .ok (.iconst 0, 1) := by decide +kernel
theorem dX5_readCoach_62 : decode cX5_readCoach 62 = .ok (.sipush 200, 3) := by decide +kernel
theorem dX5_readCoach_65 : decode cX5_readCoach 65 = .ok (.invokevirtual 112, 3) := by decide +kernel
theorem dX5_readCoach_68 : decode cX5_readCoach 68 = .ok (.iastore, 1) := by decide +kernel
theorem dX5_readCoach_69 : decode cX5_readCoach 69 = .ok (.aload_n 1, 1) := by decide +kernel
theorem dX5_readCoach_70 : decode cX5_readCoach 70 = .ok (.dup, 1) := by decide +kernel
theorem dX5_readCoach_71 : decode cX5_readCoach 71 = .ok (.getfield 160, 3) := by decide +kernel
theorem dX5_readCoach_74 : decode cX5_readCoach 74 = .ok (.iconst 1, 1) := by decide +kernel
theorem dX5_readCoach_75 : decode cX5_readCoach 75 = .ok (.iadd, 1) := by decide +kernel
theorem dX5_readCoach_76 : decode cX5_readCoach 76 = .ok (.putfield 160, 3) := by decide +kernel
theorem dX5_readCoach_79 : decode cX5_readCoach 79 = .ok (.return_, 1) := by decide +kernel
theorem dX5_readThing_0 : decode cX5_readThing 0 = .ok (.aload_n 1, 1) := by decide +kernel
theorem dX5_readThing_1 : decode cX5_readThing 1 = .ok (.getfield 177, 3) := by decide +kernel
theorem dX5_readThing_4 : decode cX5_readThing 4 = .ok (.iconst 5, 1) := by decide +kernel
theorem dX5_readThing_5 : decode cX5_readThing 5 = .ok (.if_icmp .lt 12, 3) := by decide +kernel
theorem dX5_readThing_8 : decode cX5_readThing 8 = .ok (.aload_n 0, 1) := by decide +kernel
theorem dX5_readThing_9 : decode cX5_readThing 9 = .ok (.getfield 9, 3) := by decide +kernel
theorem dX5_readThing_12 : decode cX5_readThing 12 = .ok (.iconst 5, 1) := by decide +kernel
theorem dX5_readThing_13 : decode cX5_readThing 13 = .ok (.invokevirtual 77, 3) := by decide +kernel
theorem dX5_readThing_16 : decode cX5_readThing 16 = .ok (.return_, 1) := by decide +kernel
theorem dX5_readThing_17 : decode cX5_readThing 17 = .ok (.aload_n 1, 1) := by decide +kernel
theorem dX5_readThing_18 : decode cX5_readThing 18 = .ok (.getfield 180, 3) := by decide +kernel
theorem dX5_readThing_21 : decode cX5_readThing 21 = .ok (.aload_n 1, 1) := by decide +kernel
theorem dX5_readThing_22 : decode cX5_readThing 22 = .ok (.getfield 177, 3) := by decide +kernel
theorem dX5_readThing_25 : decode cX5_readThing 25 = .ok (.aaload, 1) := by decide +kernel
theorem dX5_readThing_26 : decode cX5_readThing 26 = .ok (.astore_n 2, 1) := by decide +kernel
theorem dX5_readThing_27 : decode cX5_readThing 27 = .ok (.aload_n 0, 1) := by decide +kernel
theorem dX5_readThing_28 : decode cX5_readThing 28 = .ok (.getfield 9, 3) := by decide +kernel
theorem dX5_readThing_31 : decode cX5_readThing 31 = .ok (.invokevirtual 81, 3) := by decide +kernel
theorem dX5_readThing_34 : decode cX5_readThing 34 = .ok (.aload_n 2, 1) := by decide +kernel
theorem dX5_readThing_35 : decode cX5_readThing 35 = .ok (.aload_n 0, 1) := by decide +kernel
theorem dX5_readThing_36 : decode cX5_readThing 36 = .ok (.aload_n 1, 1) := by decide +kernel
theorem dX5_readThing_37 : decode cX5_readThing 37 = .ok (.invokevirtual 167, 3) := by decide +kernel
theorem dX5_readThing_40 : decode cX5_readThing 40 = .ok (.putfield 184, 3) := by decide +kernel
theorem dX5_readThing_43 : decode cX5_readThing 43 = .ok (.aload_n 2, 1) := by decide +kernel
theorem dX5_readThing_44 : decode cX5_readThing 44 = .ok (.aload_n 0, 1) := by decide +kernel
theorem dX5_readThing_45 : decode cX5_readThing 45 = .ok (.getfield 9, 3) := by decide +kernel
theorem dX5_readThing_48 : decode cX5_readThing 48 = .ok (.getstatic 190, 3) := by decide +kernel
theorem dX5_readThing_51 : decode cX5_readThing 51 = .ok (.getstatic 193, 3) := by decide +kernel
theorem dX5_readThing_54 : decode cX5_readThing 54 = .ok (.getstatic 196, 3) := by decide +kernel
theorem dX5_readThing_57 : decode cX5_readThing 57 = .ok (.invokevirtual 199, 3) := by decide +kernel
theorem dX5_readThing_60 : decode cX5_readThing 60 = .ok (.putfield 203, 3) := by decide +kernel
theorem dX5_readThing_63 : decode cX5_readThing 63 = .ok (.aload_n 0, 1) := by decide +kernel
theorem dX5_readThing_64 : decode cX5_readThing 64 = .ok (.getfield 9, 3) := by decide +kernel
theorem dX5_readThing_67 : decode cX5_readThing 67 = .ok (.getstatic 206, 3) := by decide +kernel
theorem dX5_readThing_70 : decode cX5_readThing 70 = .ok (.invokevirtual 122, 3) := by decide +kernel
theorem dX5_readThing_73 : decode cX5_readThing 73 = .ok (.aload_n 2, 1) := by decide +kernel
theorem dX5_readThing_74 : decode cX5_readThing 74 = .ok (.aload_n 0, 1) := by decide +kernel
theorem dX5_readThing_75 : decode cX5_readThing 75 = .ok (.getfield 9, 3) := by decide +kernel
theorem dX5_readThing_78 : decode cX5_readThing 78 = .ok (.iconst 1, 1) := by decide +kernel
theorem dX5_readThing_79 : decode cX5_readThing 79 = .ok (.bipush 60, 2) := by decide +kernel
theorem dX5_readThing_81 : decode cX5_readThing 81 = .ok (.invokevirtual 112, 3) := by decide +kernel
theorem dX5_readThing_84 : decode cX5_readThing 84 = .ok (.putfield 209, 3) := by decide +kernel
theorem dX5_readThing_87 : decode cX5_readThing 87 = .ok (.aload_n 0, 1) := by decide +kernel
theorem dX5_readThing_88 : decode cX5_readThing 88 = .ok (.getfield 9, 3) := by decide +kernel
theorem dX5_readThing_91 : decode cX5_readThing 91 = .ok (.getstatic 212, 3) := by decide +kernel
theorem dX5_readThing_94 : decode cX5_readThing 94 = .ok (.invokevirtual 122, 3) := by decide +kernel
theorem dX5_readThing_97 : decode cX5_readThing 97 = .ok (.aload_n 2, 1) := by decide +kernel
theorem dX5_readThing_98 : decode cX5_readThing 98 = .ok (.aload_n 0, 1) := by decide +kernel
theorem dX5_readThing_99 : decode cX5_readThing 99 = .ok (.getfield 9, 3) := by decide +kernel
theorem dX5_readThing_102 : decode cX5_readThing 102 = .ok (.iconst 1, 1) := by decide +kernel
theorem dX5_readThing_103 : decode cX5_readThing 103 = .ok (.bipush 99, 2) := by decide +kernel
theorem dX5_readThing_105 : decode cX5_readThing 105 = .ok (.invokevirtual 112, 3) := by decide +kernel
theorem dX5_readThing_108 : decode cX5_readThing 108 = .ok (.putfield 215, 3) := by decide +kernel
theorem dX5_readThing_111 : decode cX5_readThing 111 = .ok (.aload_n 0, 1) := by decide +kernel
theorem dX5_readThing_112 : decode cX5_readThing 112 = .ok (.getfield 9, 3) := by decide +kernel
theorem dX5_readThing_115 : decode cX5_readThing 115 = .ok (.getstatic 218, 3) := by decide +kernel
theorem dX5_readThing_118 : decode cX5_readThing 118 = .ok (.invokevirtual 122, 3) := by decide +kernel
theorem dX5_readThing_121 : decode cX5_readThing 121 = .ok (.aload_n 2, 1) := by decide +kernel
theorem dX5_readThing_122 : decode cX5_readThing 122 = .ok (.aload_n 0, 1) := by decide +kernel
theorem dX5_readThing_123 : decode cX5_readThing 123 = .ok (.getfield 9, 3) := by decide +kernel
theorem dX5_readThing_126 : decode cX5_readThing 126 = .ok (.iconst 0, 1) := by decide +kernel
theorem dX5_readThing_127 : decode cX5_readThing 127 = .ok (.bipush 99, 2) := by decide +kernel
theorem dX5_readThing_129 : decode cX5_readThing 129 = .ok (.invokevirtual 112, 3) := by decide +kernel
theorem dX5_readThing_132 : decode cX5_readThing 132 = .ok (.putfield 221, 3) := by decide +kernel
theorem dX5_readThing_135 : decode cX5_readThing 135 = .ok (.aload_n 0, 1) := by decide +kernel
theorem dX5_readThing_136 : decode cX5_readThing 136 = .ok (.getfield 9, 3) := by decide +kernel
theorem dX5_readThing_139 : decode cX5_readThing 139 = .ok (.getstatic 224, 3) := by decide +kernel
theorem dX5_readThing_142 : decode cX5_readThing 142 = .ok (.invokevirtual 122, 3) := by decide +kernel
theorem dX5_readThing_145 : decode cX5_readThing 145 = .ok (.aload_n 2, 1) := by decide +kernel
theorem dX5_readThing_146 : decode cX5_readThing 146 = .ok (.aload_n 0, 1) := by decide +kernel
theorem dX5_readThing_147 : decode cX5_readThing 147 = .ok (.getfield 9, 3) := by decide +kernel
theorem dX5_readThing_150 : decode cX5_readThing 150 = .ok (.iconst 0, 1) := by decide +kernel
theorem dX5_readThing_151 : decode cX5_readThing 151 = .ok (.bipush 20, 2) := by decide +kernel
theorem dX5_readThing_153 : decode cX5_readThing 153 = .ok (.invokevirtual 112, 3) := by decide +kernel
theorem dX5_readThing_156 : decode cX5_readThing 156 = .ok (.putfield 227, 3) := by decide +kernel
theorem dX5_readThing_159 : decode cX5_readThing 159 = .ok (.aload_n 1, 1) := by decide +kernel
theorem dX5_readThing_160 : decode cX5_readThing 160 = .ok (.dup, 1) := by decide +kernel
theorem dX5_readThing_161 : decode cX5_readThing 161 = .ok (.getfield 177, 3) := by decide +kernel
theorem dX5_readThing_164 : decode cX5_readThing 164 = .ok (.iconst 1, 1) := by decide +kernel
theorem dX5_readThing_165 : decode cX5_readThing 165 = .ok (.iadd, 1) := by decide +kernel
theorem dX5_readThing_166 : decode cX5_readThing 166 = .ok (.putfield 177, 3) := by decide +kernel
theorem dX5_readThing_169 : decode cX5_readThing 169 = .ok (.return_, 1) := by decide +kernel
theorem dX5_readBuyer_0 : decode cX5_readBuyer 0 = .ok (.aload_n 1, 1) := by decide +kernel
theorem dX5_readBuyer_1 : decode cX5_readBuyer 1 = .ok (.getfield 230, 3) := by decide +kernel
theorem dX5_readBuyer_4 : decode cX5_readBuyer 4 = .ok (.bipush 6, 2) := by decide +kernel
theorem dX5_readBuyer_6 : decode cX5_readBuyer 6 = .ok (.if_icmp .lt 12, 3) := by decide +kernel
theorem dX5_readBuyer_9 : decode cX5_readBuyer 9 = .ok (.aload_n 0, 1) := by decide +kernel
theorem dX5_readBuyer_10 : decode cX5_readBuyer 10 = .ok (.getfield 9, 3) := by decide +kernel
theorem dX5_readBuyer_13 : decode cX5_readBuyer 13 = .ok (.iconst 5, 1) := by decide +kernel
theorem dX5_readBuyer_14 : decode cX5_readBuyer 14 = .ok (.invokevirtual 77, 3) := by decide +kernel
theorem dX5_readBuyer_17 : decode cX5_readBuyer 17 = .ok (.return_, 1) := by decide +kernel
theorem dX5_readBuyer_18 : decode cX5_readBuyer 18 = .ok (.aload_n 1, 1) := by decide +kernel
theorem dX5_readBuyer_19 : decode cX5_readBuyer 19 = .ok (.getfield 233, 3) := by decide +kernel
theorem dX5_readBuyer_22 : decode cX5_readBuyer 22 = .ok (.aload_n 1, 1) := by decide +kernel
theorem dX5_readBuyer_23 : decode cX5_readBuyer 23 = .ok (.getfield 230, 3) := by decide +kernel
theorem dX5_readBuyer_26 : decode cX5_readBuyer 26 = .ok (.aaload, 1) := by decide +kernel
theorem dX5_readBuyer_27 : decode cX5_readBuyer 27 = .ok (.astore_n 2, 1) := by decide +kernel
theorem dX5_readBuyer_28 : decode cX5_readBuyer 28 = .ok (.aload_n 0, 1) := by decide +kernel
theorem dX5_readBuyer_29 : decode cX5_readBuyer 29 = .ok (.getfield 9, 3) := by decide +kernel
theorem dX5_readBuyer_32 : decode cX5_readBuyer 32 = .ok (.invokevirtual 81, 3) := by decide +kernel
theorem dX5_readBuyer_35 : decode cX5_readBuyer 35 = .ok (.aload_n 2, 1) := by decide +kernel
theorem dX5_readBuyer_36 : decode cX5_readBuyer 36 = .ok (.aload_n 0, 1) := by decide +kernel
theorem dX5_readBuyer_37 : decode cX5_readBuyer 37 = .ok (.aload_n 1, 1) := by decide +kernel
theorem dX5_readBuyer_38 : decode cX5_readBuyer 38 = .ok (.invokevirtual 167, 3) := by decide +kernel
theorem dX5_readBuyer_41 : decode cX5_readBuyer 41 = .ok (.putfield 237, 3) := by decide +kernel
theorem dX5_readBuyer_44 : decode cX5_readBuyer 44 = .ok (.aload_n 2, 1) := by decide +kernel
theorem dX5_readBuyer_45 : decode cX5_readBuyer 45 = .ok (.aload_n 0, 1) := by decide +kernel
theorem dX5_readBuyer_46 : decode cX5_readBuyer 46 = .ok (.getfield 9, 3) := by decide +kernel
theorem dX5_readBuyer_49 : decode cX5_readBuyer 49 = .ok (.getstatic 240, 3) := by decide +kernel
theorem dX5_readBuyer_52 : decode cX5_readBuyer 52 = .ok (.getstatic 243, 3) := by decide +kernel
theorem dX5_readBuyer_55 : decode cX5_readBuyer 55 = .ok (.getstatic 246, 3) := by decide +kernel
theorem dX5_readBuyer_58 : decode cX5_readBuyer 58 = .ok (.invokevirtual 199, 3) := by decide +kernel
theorem dX5_readBuyer_61 : decode cX5_readBuyer 61 = .ok (.putfield 249, 3) := by decide +kernel
theorem dX5_readBuyer_64 : decode cX5_readBuyer 64 = .ok (.aload_n 0, 1) := by decide +kernel
theorem dX5_readBuyer_65 : decode cX5_readBuyer 65 = .ok (.getfield 9, 3) := by decide +kernel
theorem dX5_readBuyer_68 : decode cX5_readBuyer 68 = .ok (.getstatic 54, 3) := by decide +kernel
theorem dX5_readBuyer_71 : decode cX5_readBuyer 71 = .ok (.invokevirtual 122, 3) := by decide +kernel
theorem dX5_readBuyer_74 : decode cX5_readBuyer 74 = .ok (.aload_n 2, 1) := by decide +kernel
theorem dX5_readBuyer_75 : decode cX5_readBuyer 75 = .ok (.aload_n 0, 1) := by decide +kernel
theorem dX5_readBuyer_76 : decode cX5_readBuyer 76 = .ok (.getfield 9, 3) := by decide +kernel
theorem dX5_readBuyer_79 : decode cX5_readBuyer 79 = .ok (.aload_n 1, 1) := by decide +kernel
theorem dX5_readBuyer_80 : decode cX5_readBuyer 80 = .ok (.aload_n 0, 1) := by decide +kernel
theorem dX5_readBuyer_81 : decode cX5_readBuyer 81 = .ok (.getfield 9, 3) := by decide +kernel
theorem dX5_readBuyer_84 : decode cX5_readBuyer 84 = .ok (.getfield 252, 3) := by decide +kernel
theorem dX5_readBuyer_87 : decode cX5_readBuyer 87 = .ok (.invokevirtual 255, 3) := by decide +kernel
theorem dX5_readBuyer_90 : decode cX5_readBuyer 90 = .ok (.invokevirtual 259, 3) := by decide +kernel
theorem dX5_readBuyer_93 : decode cX5_readBuyer 93 = .ok (.putfield 263, 3) := by decide +kernel
theorem dX5_readBuyer_96 : decode cX5_readBuyer 96 = .ok (.aload_n 0, 1) := by decide +kernel
theorem dX5_readBuyer_97 : decode cX5_readBuyer 97 = .ok (.getfield 9, 3) := by decide +kernel
theorem dX5_readBuyer_100 : decode cX5_readBuyer 100 = .ok (.getstatic 266, 3) := by decide +kernel
theorem dX5_readBuyer_103 : decode cX5_readBuyer 103 = .ok (.invokevirtual 122, 3) := by decide +kernel
theorem dX5_readBuyer_106 : decode cX5_readBuyer 106 = .ok (.aload_n 2, 1) := by decide +kernel
theorem dX5_readBuyer_107 : decode cX5_readBuyer 107 = .ok (.aload_n 0, 1) := by decide +kernel
theorem dX5_readBuyer_108 : decode cX5_readBuyer 108 = .ok (.getfield 9, 3) := by decide +kernel
theorem dX5_readBuyer_111 : decode cX5_readBuyer 111 = .ok (.iconst 0, 1) := by decide +kernel
theorem dX5_readBuyer_112 : decode cX5_readBuyer 112 = .ok (.bipush 10, 2) := by decide +kernel
theorem dX5_readBuyer_114 : decode cX5_readBuyer 114 = .ok (.invokevirtual 112, 3) := by decide +kernel
theorem dX5_readBuyer_117 : decode cX5_readBuyer 117 = .ok (.putfield 269, 3) := by decide +kernel
theorem dX5_readBuyer_120 : decode cX5_readBuyer 120 = .ok (.aload_n 0, 1) := by decide +kernel
theorem dX5_readBuyer_121 : decode cX5_readBuyer 121 = .ok (.getfield 9, 3) := by decide +kernel
theorem dX5_readBuyer_124 : decode cX5_readBuyer 124 = .ok (.getstatic 272, 3) := by decide +kernel
theorem dX5_readBuyer_127 : decode cX5_readBuyer 127 = .ok (.invokevirtual 122, 3) := by decide +kernel
theorem dX5_readBuyer_130 : decode cX5_readBuyer 130 = .ok (.aload_n 2, 1) := by decide +kernel
theorem dX5_readBuyer_131 : decode cX5_readBuyer 131 = .ok (.aload_n 0, 1) := by decide +kernel
theorem dX5_readBuyer_132 : decode cX5_readBuyer 132 = .ok (.getfield 9, 3) := by decide +kernel
theorem dX5_readBuyer_135 : decode cX5_readBuyer 135 = .ok (.iconst 0, 1) := by decide +kernel
theorem dX5_readBuyer_136 : decode cX5_readBuyer 136 = .ok (.bipush 99, 2) := by decide +kernel
theorem dX5_readBuyer_138 : decode cX5_readBuyer 138 = .ok (.invokevirtual 112, 3) := by decide +kernel
theorem dX5_readBuyer_141 : decode cX5_readBuyer 141 = .ok (.putfield 275, 3) := by decide +kernel
theorem dX5_readBuyer_144 : decode cX5_readBuyer 144 = .ok (.aload_n 0, 1) := by decide +kernel
theorem dX5_readBuyer_145 : decode cX5_readBuyer 145 = .ok (.getfield 9, 3) := by decide +kernel
theorem dX5_readBuyer_148 : decode cX5_readBuyer 148 = .ok (.getstatic 278, 3) := by decide +kernel
theorem dX5_readBuyer_151 : decode cX5_readBuyer 151 = .ok (.invokevirtual 122, 3) := by decide +kernel
theorem dX5_readBuyer_154 : decode cX5_readBuyer 154 = .ok (.aload_n 0, 1) := by decide +kernel
theorem dX5_readBuyer_155 : decode cX5_readBuyer 155 = .ok (.aload_n 1, 1) := by decide +kernel
theorem dX5_readBuyer_156 : decode cX5_readBuyer 156 = .ok (.aload_n 2, 1) := by decide +kernel
theorem dX5_readBuyer_157 : decode cX5_readBuyer 157 = .ok (.invokevirtual 281, 3) := by decide +kernel
theorem dX5_readBuyer_160 : decode cX5_readBuyer 160 = .ok (.aload_n 1, 1) := by decide +kernel
theorem dX5_readBuyer_161 : decode cX5_readBuyer 161 = .ok (.dup, 1) := by decide +kernel
theorem dX5_readBuyer_162 : decode cX5_readBuyer 162 = .ok (.getfield 230, 3) := by decide +kernel
theorem dX5_readBuyer_165 : decode cX5_readBuyer 165 = .ok (.iconst 1, 1) := by decide +kernel
theorem dX5_readBuyer_166 : decode cX5_readBuyer 166 = .ok (.iadd, 1) := by decide +kernel
theorem dX5_readBuyer_167 : decode cX5_readBuyer 167 = .ok (.putfield 230, 3) := by decide +kernel
theorem dX5_readBuyer_170 : decode cX5_readBuyer 170 = .ok (.return_, 1) := by decide +kernel
theorem dX5_readWants_0 : decode cX5_readWants 0 = .ok (.aload_n 2, 1) := by decide +kernel
theorem dX5_readWants_1 : decode cX5_readWants 1 = .ok (.iconst 0, 1) := by decide +kernel
theorem dX5_readWants_2 : decode cX5_readWants 2 = .ok (.putfield 285, 3) := by decide +kernel
theorem dX5_readWants_5 : decode cX5_readWants 5 = .ok (.aload_n 2, 1) := by decide +kernel
theorem dX5_readWants_6 : decode cX5_readWants 6 = .ok (.iconst 0, 1) := by decide +kernel
theorem dX5_readWants_7 : decode cX5_readWants 7 = .ok (.putfield 288, 3) := by decide +kernel
theorem dX5_readWants_10 : decode cX5_readWants 10 = .ok (.iconst 0, 1) := by decide +kernel
theorem dX5_readWants_11 : decode cX5_readWants 11 = .ok (.istore_n 3, 1) := by decide +kernel
theorem dX5_readWants_12 : decode cX5_readWants 12 = .ok (.iload_n 3, 1) := by decide +kernel
theorem dX5_readWants_13 : decode cX5_readWants 13 = .ok (.iconst 3, 1) := by decide +kernel
theorem dX5_readWants_14 : decode cX5_readWants 14 = .ok (.if_icmp .gt 157, 3) := by decide +kernel
theorem dX5_readWants_17 : decode cX5_readWants 17 = .ok (.iload_n 3, 1) := by decide +kernel
theorem dX5_readWants_18 : decode cX5_readWants 18 = .ok (.ifCond .eq 14, 3) := by decide +kernel
theorem dX5_readWants_21 : decode cX5_readWants 21 = .ok (.aload_n 0, 1) := by decide +kernel
theorem dX5_readWants_22 : decode cX5_readWants 22 = .ok (.getfield 9, 3) := by decide +kernel
theorem dX5_readWants_25 : decode cX5_readWants 25 = .ok (.getfield 291, 3) := by decide +kernel
theorem dX5_readWants_28 : decode cX5_readWants 28 = .ok (.iconst 1, 1) := by decide +kernel
theorem dX5_readWants_29 : decode cX5_readWants 29 = .ok (.if_icmp .ne 142, 3) := by decide +kernel
theorem dX5_readWants_32 : decode cX5_readWants 32 = .ok (.aload_n 1, 1) := by decide +kernel
theorem dX5_readWants_33 : decode cX5_readWants 33 = .ok (.aload_n 0, 1) := by decide +kernel
theorem dX5_readWants_34 : decode cX5_readWants 34 = .ok (.getfield 9, 3) := by decide +kernel
theorem dX5_readWants_37 : decode cX5_readWants 37 = .ok (.getfield 252, 3) := by decide +kernel
theorem dX5_readWants_40 : decode cX5_readWants 40 = .ok (.invokevirtual 292, 3) := by decide +kernel
theorem dX5_readWants_43 : decode cX5_readWants 43 = .ok (.istore 4, 2) := by decide +kernel
theorem dX5_readWants_45 : decode cX5_readWants 45 = .ok (.aload_n 0, 1) := by decide +kernel
theorem dX5_readWants_46 : decode cX5_readWants 46 = .ok (.getfield 9, 3) := by decide +kernel
theorem dX5_readWants_49 : decode cX5_readWants 49 = .ok (.invokevirtual 295, 3) := by decide +kernel
theorem dX5_readWants_52 : decode cX5_readWants 52 = .ok (.ifCond .ne 14, 3) := by decide +kernel
theorem dX5_readWants_55 : decode cX5_readWants 55 = .ok (.aload_n 0, 1) := by decide +kernel
theorem dX5_readWants_56 : decode cX5_readWants 56 = .ok (.getfield 9, 3) := by decide +kernel
theorem dX5_readWants_59 : decode cX5_readWants 59 = .ok (.iconst 1, 1) := by decide +kernel
theorem dX5_readWants_60 : decode cX5_readWants 60 = .ok (.invokevirtual 77, 3) := by decide +kernel
theorem dX5_readWants_63 : decode cX5_readWants 63 = .ok (.goto 102, 3) := by decide +kernel
theorem dX5_readWants_66 : decode cX5_readWants 66 = .ok (.iload 4, 2) := by decide +kernel
theorem dX5_readWants_68 : decode cX5_readWants 68 = .ok (.ifCond .ge 14, 3) := by decide +kernel
theorem dX5_readWants_71 : decode cX5_readWants 71 = .ok (.aload_n 0, 1) := by decide +kernel
theorem dX5_readWants_72 : decode cX5_readWants 72 = .ok (.getfield 9, 3) := by decide +kernel
theorem dX5_readWants_75 : decode cX5_readWants 75 = .ok (.iconst 2, 1) := by decide +kernel
theorem dX5_readWants_76 : decode cX5_readWants 76 = .ok (.invokevirtual 77, 3) := by decide +kernel
theorem dX5_readWants_79 : decode cX5_readWants 79 = .ok (.goto 86, 3) := by decide +kernel
theorem dX5_readWants_82 : decode cX5_readWants 82 = .ok (.aload_n 2, 1) := by decide +kernel
theorem dX5_readWants_83 : decode cX5_readWants 83 = .ok (.getfield 288, 3) := by decide +kernel
theorem dX5_readWants_86 : decode cX5_readWants 86 = .ok (.iload 4, 2) := by decide +kernel
theorem dX5_readWants_88 : decode cX5_readWants 88 = .ok (.ishr, 1) := by decide +kernel
theorem dX5_readWants_89 : decode cX5_readWants 89 = .ok (.iconst 1, 1) := by decide +kernel
theorem dX5_readWants_90 : decode cX5_readWants 90 = .ok (.iand, 1) := by decide +kernel
theorem dX5_readWants_91 : decode cX5_readWants 91 = .ok (.ifCond .eq 14, 3) := by decide +kernel
theorem dX5_readWants_94 : decode cX5_readWants 94 = .ok (.aload_n 0, 1) := by decide +kernel
theorem dX5_readWants_95 : decode cX5_readWants 95 = .ok (.getfield 9, 3) := by decide +kernel
theorem dX5_readWants_98 : decode cX5_readWants 98 = .ok (.iconst 3, 1) := by decide +kernel
theorem dX5_readWants_99 : decode cX5_readWants 99 = .ok (.invokevirtual 77, 3) := by decide +kernel
theorem dX5_readWants_102 : decode cX5_readWants 102 = .ok (.goto 63, 3) := by decide +kernel
theorem dX5_readWants_105 : decode cX5_readWants 105 = .ok (.aload_n 2, 1) := by decide +kernel
theorem dX5_readWants_106 : decode cX5_readWants 106 = .ok (.getfield 285, 3) := by decide +kernel
theorem dX5_readWants_109 : decode cX5_readWants 109 = .ok (.iconst 3, 1) := by decide +kernel
theorem dX5_readWants_110 : decode cX5_readWants 110 = .ok (.if_icmp .lt 14, 3) := by decide +kernel
theorem dX5_readWants_113 : decode cX5_readWants 113 = .ok (.aload_n 0, 1) := by decide +kernel
theorem dX5_readWants_114 : decode cX5_readWants 114 = .ok (.getfield 9, 3) := by decide +kernel
theorem dX5_readWants_117 : decode cX5_readWants 117 = .ok (.iconst 5, 1) := by decide +kernel
theorem dX5_readWants_118 : decode cX5_readWants 118 = .ok (.invokevirtual 77, 3) := by decide +kernel
theorem dX5_readWants_121 : decode cX5_readWants 121 = .ok (.goto 44, 3) := by decide +kernel
theorem dX5_readWants_124 : decode cX5_readWants 124 = .ok (.aload_n 2, 1) := by decide +kernel
theorem dX5_readWants_125 : decode cX5_readWants 125 = .ok (.getfield 298, 3) := by decide +kernel
theorem dX5_readWants_128 : decode cX5_readWants 128 = .ok (.aload_n 2, 1) := by decide +kernel
theorem dX5_readWants_129 : decode cX5_readWants 129 = .ok (.getfield 285, 3) := by decide +kernel
theorem dX5_readWants_132 : decode cX5_readWants 132 = .ok (.iload 4, 2) := by decide +kernel
theorem dX5_readWants_134 : decode cX5_readWants 134 = .ok (.iastore, 1) := by decide +kernel
theorem dX5_readWants_135 : decode cX5_readWants 135 = .ok (.aload_n 2, 1) := by decide +kernel
theorem dX5_readWants_136 : decode cX5_readWants 136 = .ok (.dup, 1) := by decide +kernel
theorem dX5_readWants_137 : decode cX5_readWants 137 = .ok (.getfield 285, 3) := by decide +kernel
theorem dX5_readWants_140 : decode cX5_readWants 140 = .ok (.iconst 1, 1) := by decide +kernel
theorem dX5_readWants_141 : decode cX5_readWants 141 = .ok (.iadd, 1) := by decide +kernel
theorem dX5_readWants_142 : decode cX5_readWants 142 = .ok (.putfield 285, 3) := by decide +kernel
theorem dX5_readWants_145 : decode cX5_readWants 145 = .ok (.aload_n 2, 1) := by decide +kernel
theorem dX5_readWants_146 : decode cX5_readWants 146 = .ok (.dup, 1) := by decide +kernel
theorem dX5_readWants_147 : decode cX5_readWants 147 = .ok (.getfield 288, 3) := by decide +kernel
theorem dX5_readWants_150 : decode cX5_readWants 150 = .ok (.iconst 1, 1) := by decide +kernel
theorem dX5_readWants_151 : decode cX5_readWants 151 = .ok (.iload 4, 2) := by decide +kernel
theorem dX5_readWants_153 : decode cX5_readWants 153 = .ok (.ishl, 1) := by decide +kernel
theorem dX5_readWants_154 : decode cX5_readWants 154 = .ok (.ior, 1) := by decide +kernel
theorem dX5_readWants_155 : decode cX5_readWants 155 = .ok (.putfield 288, 3) := by decide +kernel
theorem dX5_readWants_158 : decode cX5_readWants 158 = .ok (.aload_n 0, 1) := by decide +kernel
theorem dX5_readWants_159 : decode cX5_readWants 159 = .ok (.getfield 9, 3) := by decide +kernel
theorem dX5_readWants_162 : decode cX5_readWants 162 = .ok (.invokevirtual 81, 3) := by decide +kernel
theorem dX5_readWants_165 : decode cX5_readWants 165 = .ok (.iinc 3 1, 3) := by decide +kernel
theorem dX5_readWants_168 : decode cX5_readWants 168 = .ok (.goto (-156), 3) := by decide +kernel
theorem dX5_readWants_171 : decode cX5_readWants 171 = .ok (.return_, 1) := by decide +kernel
theorem dX5_takeNewName_0 : decode cX5_takeNewName 0 = .ok (.aload_n 0, 1) := by decide +kernel
theorem dX5_takeNewName_1 : decode cX5_takeNewName 1 = .ok (.getfield 9, 3) := by decide +kernel
theorem dX5_takeNewName_4 : decode cX5_takeNewName 4 = .ok (.getfield 252, 3) := by decide +kernel
theorem dX5_takeNewName_7 : decode cX5_takeNewName 7 = .ok (.lstore_n 2, 1) := by decide +kernel
theorem dX5_takeNewName_8 : decode cX5_takeNewName 8 = .ok (.aload_n 0, 1) := by decide +kernel
theorem dX5_takeNewName_9 : decode cX5_takeNewName 9 = .ok (.getfield 9, 3) := by decide +kernel
theorem dX5_takeNewName_12 : decode cX5_takeNewName 12 = .ok (.invokevirtual 295, 3) := by decide +kernel
theorem dX5_takeNewName_15 : decode cX5_takeNewName 15 = .ok (.ifCond .ne 14, 3) := by decide +kernel
theorem dX5_takeNewName_18 : decode cX5_takeNewName 18 = .ok (.aload_n 0, 1) := by decide +kernel
theorem dX5_takeNewName_19 : decode cX5_takeNewName 19 = .ok (.getfield 9, 3) := by decide +kernel
theorem dX5_takeNewName_22 : decode cX5_takeNewName 22 = .ok (.iconst 1, 1) := by decide +kernel
theorem dX5_takeNewName_23 : decode cX5_takeNewName 23 = .ok (.invokevirtual 77, 3) := by decide +kernel
theorem dX5_takeNewName_26 : decode cX5_takeNewName 26 = .ok (.goto 45, 3) := by decide +kernel
theorem dX5_takeNewName_29 : decode cX5_takeNewName 29 = .ok (.aload_n 1, 1) := by decide +kernel
theorem dX5_takeNewName_30 : decode cX5_takeNewName 30 = .ok (.lload_n 2, 1) := by decide +kernel
theorem dX5_takeNewName_31 : decode cX5_takeNewName 31 = .ok (.invokevirtual 255, 3) := by decide +kernel
theorem dX5_takeNewName_34 : decode cX5_takeNewName 34 = .ok (.ifCond .ge 19, 3) := by decide +kernel
theorem dX5_takeNewName_37 : decode cX5_takeNewName 37 = .ok (.aload_n 1, 1) := by decide +kernel
theorem dX5_takeNewName_38 : decode cX5_takeNewName 38 = .ok (.lload_n 2, 1) := by decide +kernel
theorem dX5_takeNewName_39 : decode cX5_takeNewName 39 = .ok (.invokevirtual 292, 3) := by decide +kernel
theorem dX5_takeNewName_42 : decode cX5_takeNewName 42 = .ok (.ifCond .ge 11, 3) := by decide +kernel
theorem dX5_takeNewName_45 : decode cX5_takeNewName 45 = .ok (.aload_n 1, 1) := by decide +kernel
theorem dX5_takeNewName_46 : decode cX5_takeNewName 46 = .ok (.lload_n 2, 1) := by decide +kernel
theorem dX5_takeNewName_47 : decode cX5_takeNewName 47 = .ok (.invokevirtual 301, 3) := by decide +kernel
theorem dX5_takeNewName_50 : decode cX5_takeNewName 50 = .ok (.ifCond .lt 14, 3) := by decide +kernel
theorem dX5_takeNewName_53 : decode cX5_takeNewName 53 = .ok (.aload_n 0, 1) := by decide +kernel
theorem dX5_takeNewName_54 : decode cX5_takeNewName 54 = .ok (.getfield 9, 3) := by decide +kernel
theorem dX5_takeNewName_57 : decode cX5_takeNewName 57 = .ok (.iconst 3, 1) := by decide +kernel
theorem dX5_takeNewName_58 : decode cX5_takeNewName 58 = .ok (.invokevirtual 77, 3) := by decide +kernel
theorem dX5_takeNewName_61 : decode cX5_takeNewName 61 = .ok (.goto 10, 3) := by decide +kernel
theorem dX5_takeNewName_64 : decode cX5_takeNewName 64 = .ok (.aload_n 0, 1) := by decide +kernel
theorem dX5_takeNewName_65 : decode cX5_takeNewName 65 = .ok (.getfield 9, 3) := by decide +kernel
theorem dX5_takeNewName_68 : decode cX5_takeNewName 68 = .ok (.invokevirtual 81, 3) := by decide +kernel
theorem dX5_takeNewName_71 : decode cX5_takeNewName 71 = .ok (.lload_n 2, 1) := by decide +kernel
theorem dX5_takeNewName_72 : decode cX5_takeNewName 72 = .ok (.lreturn, 1) := by decide +kernel
theorem dX6_init_0 : decode cX6_init 0 = .ok (.aload_n 0, 1) := by decide +kernel
theorem dX6_init_1 : decode cX6_init 1 = .ok (.invokespecial 3, 3) := by decide +kernel
theorem dX6_init_4 : decode cX6_init 4 = .ok (.aload_n 0, 1) := by decide +kernel
theorem dX6_init_5 : decode cX6_init 5 = .ok (.bipush 6, 2) := by decide +kernel
theorem dX6_init_7 : decode cX6_init 7 = .ok (.newarray .int, 2) := by decide +kernel
theorem dX6_init_9 : decode cX6_init 9 = .ok (.putfield 9, 3) := by decide +kernel
theorem dX6_init_12 : decode cX6_init 12 = .ok (.aload_n 0, 1) := by decide +kernel
theorem dX6_init_13 : decode cX6_init 13 = .ok (.bipush 6, 2) := by decide +kernel
theorem dX6_init_15 : decode cX6_init 15 = .ok (.newarray .int, 2) := by decide +kernel
theorem dX6_init_17 : decode cX6_init 17 = .ok (.putfield 15, 3) := by decide +kernel
theorem dX6_init_20 : decode cX6_init 20 = .ok (.aload_n 0, 1) := by decide +kernel
theorem dX6_init_21 : decode cX6_init 21 = .ok (.bipush 6, 2) := by decide +kernel
theorem dX6_init_23 : decode cX6_init 23 = .ok (.newarray .int, 2) := by decide +kernel
theorem dX6_init_25 : decode cX6_init 25 = .ok (.putfield 18, 3) := by decide +kernel
theorem dX6_init_28 : decode cX6_init 28 = .ok (.aload_n 0, 1) := by decide +kernel
theorem dX6_init_29 : decode cX6_init 29 = .ok (.bipush 6, 2) := by decide +kernel
theorem dX6_init_31 : decode cX6_init 31 = .ok (.newarray .int, 2) := by decide +kernel
theorem dX6_init_33 : decode cX6_init 33 = .ok (.putfield 21, 3) := by decide +kernel
theorem dX6_init_36 : decode cX6_init 36 = .ok (.aload_n 0, 1) := by decide +kernel
theorem dX6_init_37 : decode cX6_init 37 = .ok (.bipush 6, 2) := by decide +kernel
theorem dX6_init_39 : decode cX6_init 39 = .ok (.newarray .int, 2) := by decide +kernel
theorem dX6_init_41 : decode cX6_init 41 = .ok (.putfield 24, 3) := by decide +kernel
theorem dX6_init_44 : decode cX6_init 44 = .ok (.aload_n 0, 1) := by decide +kernel
theorem dX6_init_45 : decode cX6_init 45 = .ok (.bipush 6, 2) := by decide +kernel
theorem dX6_init_47 : decode cX6_init 47 = .ok (.newarray .int, 2) := by decide +kernel
theorem dX6_init_49 : decode cX6_init 49 = .ok (.putfield 27, 3) := by decide +kernel
theorem dX6_init_52 : decode cX6_init 52 = .ok (.aload_n 0, 1) := by decide +kernel
theorem dX6_init_53 : decode cX6_init 53 = .ok (.iconst 2, 1) := by decide +kernel
theorem dX6_init_54 : decode cX6_init 54 = .ok (.newarray .int, 2) := by decide +kernel
theorem dX6_init_56 : decode cX6_init 56 = .ok (.putfield 30, 3) := by decide +kernel
theorem dX6_init_59 : decode cX6_init 59 = .ok (.aload_n 0, 1) := by decide +kernel
theorem dX6_init_60 : decode cX6_init 60 = .ok (.aload_n 1, 1) := by decide +kernel
theorem dX6_init_61 : decode cX6_init 61 = .ok (.putfield 33, 3) := by decide +kernel
theorem dX6_init_64 : decode cX6_init 64 = .ok (.aload_n 0, 1) := by decide +kernel
theorem dX6_init_65 : decode cX6_init 65 = .ok (.aload_n 2, 1) := by decide +kernel
theorem dX6_init_66 : decode cX6_init 66 = .ok (.putfield 37, 3) := by decide +kernel
theorem dX6_init_69 : decode cX6_init 69 = .ok (.return_, 1) := by decide +kernel
theorem dX6_layOut_0 : decode cX6_layOut 0 = .ok (.aload_n 0, 1) := by decide +kernel
theorem dX6_layOut_1 : decode cX6_layOut 1 = .ok (.aload_n 1, 1) := by decide +kernel
theorem dX6_layOut_2 : decode cX6_layOut 2 = .ok (.putfield 33, 3) := by decide +kernel
theorem dX6_layOut_5 : decode cX6_layOut 5 = .ok (.aload_n 0, 1) := by decide +kernel
theorem dX6_layOut_6 : decode cX6_layOut 6 = .ok (.aload_n 2, 1) := by decide +kernel
theorem dX6_layOut_7 : decode cX6_layOut 7 = .ok (.putfield 37, 3) := by decide +kernel
theorem dX6_layOut_10 : decode cX6_layOut 10 = .ok (.aload_n 0, 1) := by decide +kernel
theorem dX6_layOut_11 : decode cX6_layOut 11 = .ok (.iconst 0, 1) := by decide +kernel
theorem dX6_layOut_12 : decode cX6_layOut 12 = .ok (.putfield 41, 3) := by decide +kernel
theorem dX6_layOut_15 : decode cX6_layOut 15 = .ok (.aload_n 0, 1) := by decide +kernel
theorem dX6_layOut_16 : decode cX6_layOut 16 = .ok (.iconst 0, 1) := by decide +kernel
theorem dX6_layOut_17 : decode cX6_layOut 17 = .ok (.putfield 45, 3) := by decide +kernel
theorem dX6_layOut_20 : decode cX6_layOut 20 = .ok (.aload_n 0, 1) := by decide +kernel
theorem dX6_layOut_21 : decode cX6_layOut 21 = .ok (.iconst (-1), 1) := by decide +kernel
theorem dX6_layOut_22 : decode cX6_layOut 22 = .ok (.putfield 48, 3) := by decide +kernel
theorem dX6_layOut_25 : decode cX6_layOut 25 = .ok (.aload_n 0, 1) := by decide +kernel
theorem dX6_layOut_26 : decode cX6_layOut 26 = .ok (.iconst (-1), 1) := by decide +kernel
theorem dX6_layOut_27 : decode cX6_layOut 27 = .ok (.putfield 51, 3) := by decide +kernel
theorem dX6_layOut_30 : decode cX6_layOut 30 = .ok (.aload_n 0, 1) := by decide +kernel
theorem dX6_layOut_31 : decode cX6_layOut 31 = .ok (.iconst 0, 1) := by decide +kernel
theorem dX6_layOut_32 : decode cX6_layOut 32 = .ok (.putfield 54, 3) := by decide +kernel
theorem dX6_layOut_35 : decode cX6_layOut 35 = .ok (.aload_n 0, 1) := by decide +kernel
theorem dX6_layOut_36 : decode cX6_layOut 36 = .ok (.iconst 0, 1) := by decide +kernel
theorem dX6_layOut_37 : decode cX6_layOut 37 = .ok (.putfield 57, 3) := by decide +kernel
theorem dX6_layOut_40 : decode cX6_layOut 40 = .ok (.return_, 1) := by decide +kernel
theorem dX6_play_0 : decode cX6_play 0 = .ok (.aload_n 0, 1) := by decide +kernel
theorem dX6_play_1 : decode cX6_play 1 = .ok (.invokevirtual 60, 3) := by decide +kernel
theorem dX6_play_4 : decode cX6_play 4 = .ok (.iconst 0, 1) := by decide +kernel
theorem dX6_play_5 : decode cX6_play 5 = .ok (.istore_n 1, 1) := by decide +kernel
theorem dX6_play_6 : decode cX6_play 6 = .ok (.iconst 0, 1) := by decide +kernel
theorem dX6_play_7 : decode cX6_play 7 = .ok (.istore_n 2, 1) := by decide +kernel
theorem dX6_play_8 : decode cX6_play 8 = .ok (.iload_n 2, 1) := by decide +kernel
theorem dX6_play_9 : decode cX6_play 9 = .ok (.sipush 900, 3) := by decide +kernel
theorem dX6_play_12 : decode cX6_play 12 = .ok (.if_icmp .gt 31, 3) := by decide +kernel
theorem dX6_play_15 : decode cX6_play 15 = .ok (.iload_n 1, 1) := by decide +kernel
theorem dX6_play_16 : decode cX6_play 16 = .ok (.aload_n 0, 1) := by decide +kernel
theorem dX6_play_17 : decode cX6_play 17 = .ok (.getfield 33, 3) := by decide +kernel
theorem dX6_play_20 : decode cX6_play 20 = .ok (.getfield 63, 3) := by decide +kernel
theorem dX6_play_23 : decode cX6_play 23 = .ok (.if_icmp .ge 20, 3) := by decide +kernel
theorem dX6_play_26 : decode cX6_play 26 = .ok (.aload_n 0, 1) := by decide +kernel
theorem dX6_play_27 : decode cX6_play 27 = .ok (.iload_n 1, 1) := by decide +kernel
theorem dX6_play_28 : decode cX6_play 28 = .ok (.invokevirtual 68, 3) := by decide +kernel
theorem dX6_play_31 : decode cX6_play 31 = .ok (.aload_n 0, 1) := by decide +kernel
theorem dX6_play_32 : decode cX6_play 32 = .ok (.iload_n 1, 1) := by decide +kernel
theorem dX6_play_33 : decode cX6_play 33 = .ok (.invokevirtual 72, 3) := by decide +kernel
theorem dX6_play_36 : decode cX6_play 36 = .ok (.istore_n 1, 1) := by decide +kernel
theorem dX6_play_37 : decode cX6_play 37 = .ok (.iinc 2 1, 3) := by decide +kernel
theorem dX6_play_40 : decode cX6_play 40 = .ok (.goto (-32), 3) := by decide +kernel
theorem dX6_play_43 : decode cX6_play 43 = .ok (.iconst 0, 1) := by decide +kernel
theorem dX6_play_44 : decode cX6_play 44 = .ok (.istore_n 2, 1) := by decide +kernel
theorem dX6_play_45 : decode cX6_play 45 = .ok (.iload_n 2, 1) := by decide +kernel
theorem dX6_play_46 : decode cX6_play 46 = .ok (.aload_n 0, 1) := by decide +kernel
theorem dX6_play_47 : decode cX6_play 47 = .ok (.getfield 33, 3) := by decide +kernel
theorem dX6_play_50 : decode cX6_play 50 = .ok (.getfield 76, 3) := by decide +kernel
theorem dX6_play_53 : decode cX6_play 53 = .ok (.if_icmp .ge 22, 3) := by decide +kernel
theorem dX6_play_56 : decode cX6_play 56 = .ok (.aload_n 0, 1) := by decide +kernel
theorem dX6_play_57 : decode cX6_play 57 = .ok (.iload_n 2, 1) := by decide +kernel
theorem dX6_play_58 : decode cX6_play 58 = .ok (.invokevirtual 79, 3) := by decide +kernel
theorem dX6_play_61 : decode cX6_play 61 = .ok (.ifCond .eq 8, 3) := by decide +kernel
theorem dX6_play_64 : decode cX6_play 64 = .ok (.aload_n 0, 1) := by decide +kernel
theorem dX6_play_65 : decode cX6_play 65 = .ok (.iload_n 2, 1) := by decide +kernel
theorem dX6_play_66 : decode cX6_play 66 = .ok (.invokevirtual 83, 3) := by decide +kernel
theorem dX6_play_69 : decode cX6_play 69 = .ok (.iinc 2 1, 3) := by decide +kernel
theorem dX6_play_72 : decode cX6_play 72 = .ok (.goto (-27), 3) := by decide +kernel
theorem dX6_play_75 : decode cX6_play 75 = .ok (.return_, 1) := by decide +kernel
theorem dX6_isOut_0 : decode cX6_isOut 0 = .ok (.aload_n 0, 1) := by decide +kernel
theorem dX6_isOut_1 : decode cX6_isOut 1 = .ok (.getfield 37, 3) := by decide +kernel
theorem dX6_isOut_4 : decode cX6_isOut 4 = .ok (.getfield 86, 3) := by decide +kernel
theorem dX6_isOut_7 : decode cX6_isOut 7 = .ok (.iload_n 1, 1) := by decide +kernel
theorem dX6_isOut_8 : decode cX6_isOut 8 = .ok (.ishr, 1) := by decide +kernel
theorem dX6_isOut_9 : decode cX6_isOut 9 = .ok (.iconst 1, 1) := by decide +kernel
theorem dX6_isOut_10 : decode cX6_isOut 10 = .ok (.iand, 1) := by decide +kernel
theorem dX6_isOut_11 : decode cX6_isOut 11 = .ok (.ifCond .eq 7, 3) := by decide +kernel
theorem dX6_isOut_14 : decode cX6_isOut 14 = .ok (.iconst 1, 1) := by decide +kernel
theorem dX6_isOut_15 : decode cX6_isOut 15 = .ok (.goto 4, 3) := by decide +kernel
theorem dX6_isOut_18 : decode cX6_isOut 18 = .ok (.iconst 0, 1) := by decide +kernel
theorem dX6_isOut_19 : decode cX6_isOut 19 = .ok (.ireturn, 1) := by decide +kernel
theorem dX6_makeReady_0 : decode cX6_makeReady 0 = .ok (.aload_n 0, 1) := by decide +kernel
theorem dX6_makeReady_1 : decode cX6_makeReady 1 = .ok (.iconst 0, 1) := by decide +kernel
theorem dX6_makeReady_2 : decode cX6_makeReady 2 = .ok (.putfield 91, 3) := by decide +kernel
theorem dX6_makeReady_5 : decode cX6_makeReady 5 = .ok (.aload_n 0, 1) := by decide +kernel
theorem dX6_makeReady_6 : decode cX6_makeReady 6 = .ok (.iconst 0, 1) := by decide +kernel
theorem dX6_makeReady_7 : decode cX6_makeReady 7 = .ok (.putfield 94, 3) := by decide +kernel
theorem dX6_makeReady_10 : decode cX6_makeReady 10 = .ok (.iconst 0, 1) := by decide +kernel
theorem dX6_makeReady_11 : decode cX6_makeReady 11 = .ok (.istore_n 1, 1) := by decide +kernel
theorem dX6_makeReady_12 : decode cX6_makeReady 12 = .ok (.iload_n 1, 1) := by decide +kernel
theorem dX6_makeReady_13 : decode cX6_makeReady 13 = .ok (.aload_n 0, 1) := by decide +kernel
theorem dX6_makeReady_14 : decode cX6_makeReady 14 = .ok (.getfield 30, 3) := by decide +kernel
theorem dX6_makeReady_17 : decode cX6_makeReady 17 = .ok (.arraylength, 1) := by decide +kernel
theorem dX6_makeReady_18 : decode cX6_makeReady 18 = .ok (.if_icmp .ge 16, 3) := by decide +kernel
theorem dX6_makeReady_21 : decode cX6_makeReady 21 = .ok (.aload_n 0, 1) := by decide +kernel
theorem dX6_makeReady_22 : decode cX6_makeReady 22 = .ok (.getfield 30, 3) := by decide +kernel
theorem dX6_makeReady_25 : decode cX6_makeReady 25 = .ok (.iload_n 1, 1) := by decide +kernel
theorem dX6_makeReady_26 : decode cX6_makeReady 26 = .ok (.iconst 0, 1) := by decide +kernel
theorem dX6_makeReady_27 : decode cX6_makeReady 27 = .ok (.iastore, 1) := by decide +kernel
theorem dX6_makeReady_28 : decode cX6_makeReady 28 = .ok (.iinc 1 1, 3) := by decide +kernel
theorem dX6_makeReady_31 : decode cX6_makeReady 31 = .ok (.goto (-19), 3) := by decide +kernel
theorem dX6_makeReady_34 : decode cX6_makeReady 34 = .ok (.iconst 0, 1) := by decide +kernel
theorem dX6_makeReady_35 : decode cX6_makeReady 35 = .ok (.istore_n 1, 1) := by decide +kernel
theorem dX6_makeReady_36 : decode cX6_makeReady 36 = .ok (.iload_n 1, 1) := by decide +kernel
theorem dX6_makeReady_37 : decode cX6_makeReady 37 = .ok (.aload_n 0, 1) := by decide +kernel
theorem dX6_makeReady_38 : decode cX6_makeReady 38 = .ok (.getfield 33, 3) := by decide +kernel
theorem dX6_makeReady_41 : decode cX6_makeReady 41 = .ok (.getfield 76, 3) := by decide +kernel
theorem dX6_makeReady_44 : decode cX6_makeReady 44 = .ok (.if_icmp .ge 101, 3) := by decide +kernel
theorem dX6_makeReady_47 : decode cX6_makeReady 47 = .ok (.aload_n 0, 1) := by decide +kernel
theorem dX6_makeReady_48 : decode cX6_makeReady 48 = .ok (.getfield 33, 3) := by decide +kernel
theorem dX6_makeReady_51 : decode cX6_makeReady 51 = .ok (.iload_n 1, 1) := by decide +kernel
theorem dX6_makeReady_52 : decode cX6_makeReady 52 = .ok (.aload_n 0, 1) := by decide +kernel
theorem dX6_makeReady_53 : decode cX6_makeReady 53 = .ok (.getfield 37, 3) := by decide +kernel
theorem dX6_makeReady_56 : decode cX6_makeReady 56 = .ok (.getfield 97, 3) := by decide +kernel
theorem dX6_makeReady_59 : decode cX6_makeReady 59 = .ok (.invokevirtual 100, 3) := by decide +kernel
theorem dX6_makeReady_62 : decode cX6_makeReady 62 = .ok (.istore_n 2, 1) := by decide +kernel
theorem dX6_makeReady_63 : decode cX6_makeReady 63 = .ok (.aload_n 0, 1) := by decide +kernel
theorem dX6_makeReady_64 : decode cX6_makeReady 64 = .ok (.getfield 9, 3) := by decide +kernel
theorem dX6_makeReady_67 : decode cX6_makeReady 67 = .ok (.iload_n 1, 1) := by decide +kernel
theorem dX6_makeReady_68 : decode cX6_makeReady 68 = .ok (.aload_n 0, 1) := by decide +kernel
theorem dX6_makeReady_69 : decode cX6_makeReady 69 = .ok (.getfield 33, 3) := by decide +kernel
theorem dX6_makeReady_72 : decode cX6_makeReady 72 = .ok (.getfield 104, 3) := by decide +kernel
theorem dX6_makeReady_75 : decode cX6_makeReady 75 = .ok (.iload_n 1, 1) := by decide +kernel
theorem dX6_makeReady_76 : decode cX6_makeReady 76 = .ok (.aaload, 1) := by decide +kernel
theorem dX6_makeReady_77 : decode cX6_makeReady 77 = .ok (.getfield 108, 3) := by decide +kernel
theorem dX6_makeReady_80 : decode cX6_makeReady 80 = .ok (.iconst 2, 1) := by decide +kernel
theorem dX6_makeReady_81 : decode cX6_makeReady 81 = .ok (.if_icmp .ne 7, 3) := by decide +kernel
theorem dX6_makeReady_84 : decode cX6_makeReady 84 = .ok (.iconst 0, 1) := by decide +kernel
theorem dX6_makeReady_85 : decode cX6_makeReady 85 = .ok (.goto 4, 3) := by decide +kernel
theorem dX6_makeReady_88 : decode cX6_makeReady 88 = .ok (.iload_n 2, 1) := by decide +kernel
theorem dX6_makeReady_89 : decode cX6_makeReady 89 = .ok (.iastore, 1) := by decide +kernel
theorem dX6_makeReady_90 : decode cX6_makeReady 90 = .ok (.aload_n 0, 1) := by decide +kernel
theorem dX6_makeReady_91 : decode cX6_makeReady 91 = .ok (.getfield 15, 3) := by decide +kernel
theorem dX6_makeReady_94 : decode cX6_makeReady 94 = .ok (.iload_n 1, 1) := by decide +kernel
theorem dX6_makeReady_95 : decode cX6_makeReady 95 = .ok (.aload_n 0, 1) := by decide +kernel
theorem dX6_makeReady_96 : decode cX6_makeReady 96 = .ok (.getfield 33, 3) := by decide +kernel
theorem dX6_makeReady_99 : decode cX6_makeReady 99 = .ok (.iload_n 2, 1) := by decide +kernel
theorem dX6_makeReady_100 : decode cX6_makeReady 100 = .ok (.aload_n 0, 1) := by decide +kernel
theorem dX6_makeReady_101 : decode cX6_makeReady 101 = .ok (.getfield 37, 3) := by decide +kernel
theorem dX6_makeReady_104 : decode cX6_makeReady 104 = .ok (.getfield 113, 3) := by decide +kernel
theorem dX6_makeReady_107 : decode cX6_makeReady 107 = .ok (.invokevirtual 116, 3) := by decide +kernel
theorem dX6_makeReady_110 : decode cX6_makeReady 110 = .ok (.iastore, 1) := by decide +kernel
theorem dX6_makeReady_111 : decode cX6_makeReady 111 = .ok (.aload_n 0, 1) := by decide +kernel
theorem dX6_makeReady_112 : decode cX6_makeReady 112 = .ok (.getfield 18, 3) := by decide +kernel
theorem dX6_makeReady_115 : decode cX6_makeReady 115 = .ok (.iload_n 1, 1) := by decide +kernel
theorem dX6_makeReady_116 : decode cX6_makeReady 116 = .ok (.iconst (-1), 1) := by decide +kernel
theorem dX6_makeReady_117 : decode cX6_makeReady 117 = .ok (.iastore, 1) := by decide +kernel
theorem dX6_makeReady_118 : decode cX6_makeReady 118 = .ok (.aload_n 0, 1) := by decide +kernel
theorem dX6_makeReady_119 : decode cX6_makeReady 119 = .ok (.getfield 21, 3) := by decide +kernel
theorem dX6_makeReady_122 : decode cX6_makeReady 122 = .ok (.iload_n 1, 1) := by decide +kernel
theorem dX6_makeReady_123 : decode cX6_makeReady 123 = .ok (.iconst (-1), 1) := by decide +kernel
theorem dX6_makeReady_124 : decode cX6_makeReady 124 = .ok (.iastore, 1) := by decide +kernel
theorem dX6_makeReady_125 : decode cX6_makeReady 125 = .ok (.aload_n 0, 1) := by decide +kernel
theorem dX6_makeReady_126 : decode cX6_makeReady 126 = .ok (.getfield 24, 3) := by decide +kernel
theorem dX6_makeReady_129 : decode cX6_makeReady 129 = .ok (.iload_n 1, 1) := by decide +kernel
theorem dX6_makeReady_130 : decode cX6_makeReady 130 = .ok (.iconst 0, 1) := by decide +kernel
theorem dX6_makeReady_131 : decode cX6_makeReady 131 = .ok (.iastore, 1) := by decide +kernel
theorem dX6_makeReady_132 : decode cX6_makeReady 132 = .ok (.aload_n 0, 1) := by decide +kernel
theorem dX6_makeReady_133 : decode cX6_makeReady 133 = .ok (.getfield 27, 3) := by decide +kernel
theorem dX6_makeReady_136 : decode cX6_makeReady 136 = .ok (.iload_n 1, 1) := by decide +kernel
theorem dX6_makeReady_137 : decode cX6_makeReady 137 = .ok (.iconst 0, 1) := by decide +kernel
theorem dX6_makeReady_138 : decode cX6_makeReady 138 = .ok (.iastore, 1) := by decide +kernel
theorem dX6_makeReady_139 : decode cX6_makeReady 139 = .ok (.iinc 1 1, 3) := by decide +kernel
theorem dX6_makeReady_142 : decode cX6_makeReady 142 = .ok (.goto (-106), 3) := by decide +kernel
theorem dX6_makeReady_145 : decode cX6_makeReady 145 = .ok (.return_, 1) := by decide +kernel
theorem dX6_nextSecond_0 : decode cX6_nextSecond 0 = .ok (.aload_n 0, 1) := by decide +kernel
theorem dX6_nextSecond_1 : decode cX6_nextSecond 1 = .ok (.getfield 33, 3) := by decide +kernel
theorem dX6_nextSecond_4 : decode cX6_nextSecond 4 = .ok (.getfield 63, 3) := by decide +kernel
theorem dX6_nextSecond_7 : decode cX6_nextSecond 7 = .ok (.istore_n 2, 1) := by decide +kernel
theorem dX6_nextSecond_8 : decode cX6_nextSecond 8 = .ok (.iconst 0, 1) := by decide +kernel
theorem dX6_nextSecond_9 : decode cX6_nextSecond 9 = .ok (.istore_n 3, 1) := by decide +kernel
theorem dX6_nextSecond_10 : decode cX6_nextSecond 10 = .ok (.iload_n 3, 1) := by decide +kernel
theorem dX6_nextSecond_11 : decode cX6_nextSecond 11 = .ok (.aload_n 0, 1) := by decide +kernel
theorem dX6_nextSecond_12 : decode cX6_nextSecond 12 = .ok (.getfield 33, 3) := by decide +kernel
theorem dX6_nextSecond_15 : decode cX6_nextSecond 15 = .ok (.getfield 76, 3) := by decide +kernel
theorem dX6_nextSecond_18 : decode cX6_nextSecond 18 = .ok (.if_icmp .ge 38, 3) := by decide +kernel
theorem dX6_nextSecond_21 : decode cX6_nextSecond 21 = .ok (.aload_n 0, 1) := by decide +kernel
theorem dX6_nextSecond_22 : decode cX6_nextSecond 22 = .ok (.iload_n 3, 1) := by decide +kernel
theorem dX6_nextSecond_23 : decode cX6_nextSecond 23 = .ok (.invokevirtual 79, 3) := by decide +kernel
theorem dX6_nextSecond_26 : decode cX6_nextSecond 26 = .ok (.ifCond .eq 24, 3) := by decide +kernel
theorem dX6_nextSecond_29 : decode cX6_nextSecond 29 = .ok (.aload_n 0, 1) := by decide +kernel
theorem dX6_nextSecond_30 : decode cX6_nextSecond 30 = .ok (.getfield 9, 3) := by decide +kernel
theorem dX6_nextSecond_33 : decode cX6_nextSecond 33 = .ok (.iload_n 3, 1) := by decide +kernel
theorem dX6_nextSecond_34 : decode cX6_nextSecond 34 = .ok (.iaload, 1) := by decide +kernel
theorem dX6_nextSecond_35 : decode cX6_nextSecond 35 = .ok (.iload_n 1, 1) := by decide +kernel
theorem dX6_nextSecond_36 : decode cX6_nextSecond 36 = .ok (.if_icmp .le 14, 3) := by decide +kernel
theorem dX6_nextSecond_39 : decode cX6_nextSecond 39 = .ok (.iload_n 2, 1) := by decide +kernel
theorem dX6_nextSecond_40 : decode cX6_nextSecond 40 = .ok (.aload_n 0, 1) := by decide +kernel
theorem dX6_nextSecond_41 : decode cX6_nextSecond 41 = .ok (.getfield 9, 3) := by decide +kernel
theorem dX6_nextSecond_44 : decode cX6_nextSecond 44 = .ok (.iload_n 3, 1) := by decide +kernel
theorem dX6_nextSecond_45 : decode cX6_nextSecond 45 = .ok (.iaload, 1) := by decide +kernel
theorem dX6_nextSecond_46 : decode cX6_nextSecond 46 = .ok (.invokestatic 119, 3) := by decide +kernel
theorem dX6_nextSecond_49 : decode cX6_nextSecond 49 = .ok (.istore_n 2, 1) := by decide +kernel
theorem dX6_nextSecond_50 : decode cX6_nextSecond 50 = .ok (.iinc 3 1, 3) := by decide +kernel
theorem dX6_nextSecond_53 : decode cX6_nextSecond 53 = .ok (.goto (-43), 3) := by decide +kernel
theorem dX6_nextSecond_56 : decode cX6_nextSecond 56 = .ok (.iconst 0, 1) := by decide +kernel
theorem dX6_nextSecond_57 : decode cX6_nextSecond 57 = .ok (.istore_n 3, 1) := by decide +kernel
theorem dX6_nextSecond_58 : decode cX6_nextSecond 58 = .ok (.iload_n 3, 1) := by decide +kernel
theorem dX6_nextSecond_59 : decode cX6_nextSecond 59 = .ok (.aload_n 0, 1) := by decide +kernel
theorem dX6_nextSecond_60 : decode cX6_nextSecond 60 = .ok (.getfield 30, 3) := by decide +kernel
theorem dX6_nextSecond_63 : decode cX6_nextSecond 63 = .ok (.arraylength, 1) := by decide +kernel
theorem dX6_nextSecond_64 : decode cX6_nextSecond 64 = .ok (.if_icmp .ge 30, 3) := by decide +kernel
theorem dX6_nextSecond_67 : decode cX6_nextSecond 67 = .ok (.aload_n 0, 1) := by decide +kernel
theorem dX6_nextSecond_68 : decode cX6_nextSecond 68 = .ok (.getfield 30, 3) := by decide +kernel
theorem dX6_nextSecond_71 : decode cX6_nextSecond 71 = .ok (.iload_n 3, 1) := by decide +kernel
theorem dX6_nextSecond_72 : decode cX6_nextSecond 72 = .ok (.iaload, 1) := by decide +kernel
theorem dX6_nextSecond_73 : decode cX6_nextSecond 73 = .ok (.iload_n 1, 1) := by decide +kernel
theorem dX6_nextSecond_74 : decode cX6_nextSecond 74 = .ok (.if_icmp .le 14, 3) := by decide +kernel
theorem dX6_nextSecond_77 : decode cX6_nextSecond 77 = .ok (.iload_n 2, 1) := by decide +kernel
theorem dX6_nextSecond_78 : decode cX6_nextSecond 78 = .ok (.aload_n 0, 1) := by decide +kernel
theorem dX6_nextSecond_79 : decode cX6_nextSecond 79 = .ok (.getfield 30, 3) := by decide +kernel
theorem dX6_nextSecond_82 : decode cX6_nextSecond 82 = .ok (.iload_n 3, 1) := by decide +kernel
theorem dX6_nextSecond_83 : decode cX6_nextSecond 83 = .ok (.iaload, 1) := by decide +kernel
theorem dX6_nextSecond_84 : decode cX6_nextSecond 84 = .ok (.invokestatic 119, 3) := by decide +kernel
theorem dX6_nextSecond_87 : decode cX6_nextSecond 87 = .ok (.istore_n 2, 1) := by decide +kernel
theorem dX6_nextSecond_88 : decode cX6_nextSecond 88 = .ok (.iinc 3 1, 3) := by decide +kernel
theorem dX6_nextSecond_91 : decode cX6_nextSecond 91 = .ok (.goto (-33), 3) := by decide +kernel
theorem dX6_nextSecond_94 : decode cX6_nextSecond 94 = .ok (.iload_n 2, 1) := by decide +kernel
theorem dX6_nextSecond_95 : decode cX6_nextSecond 95 = .ok (.ireturn, 1) := by decide +kernel
theorem dX6_serveWaiting_0 : decode cX6_serveWaiting 0 = .ok (.iconst 0, 1) := by decide +kernel
theorem dX6_serveWaiting_1 : decode cX6_serveWaiting 1 = .ok (.istore_n 2, 1) := by decide +kernel
theorem dX6_serveWaiting_2 : decode cX6_serveWaiting 2 = .ok (.iload_n 2, 1) := by decide +kernel
theorem dX6_serveWaiting_3 : decode cX6_serveWaiting 3 = .ok (.aload_n 0, 1) := by decide +kernel
theorem dX6_serveWaiting_4 : decode cX6_serveWaiting 4 = .ok (.getfield 37, 3) := by decide +kernel
theorem dX6_serveWaiting_7 : decode cX6_serveWaiting 7 = .ok (.getfield 124, 3) := by decide +kernel
theorem dX6_serveWaiting_10 : decode cX6_serveWaiting 10 = .ok (.if_icmp .ge 58, 3) := by decide +kernel
theorem dX6_serveWaiting_13 : decode cX6_serveWaiting 13 = .ok (.iload_n 2, 1) := by decide +kernel
theorem dX6_serveWaiting_14 : decode cX6_serveWaiting 14 = .ok (.aload_n 0, 1) := by decide +kernel
theorem dX6_serveWaiting_15 : decode cX6_serveWaiting 15 = .ok (.getfield 30, 3) := by decide +kernel
theorem dX6_serveWaiting_18 : decode cX6_serveWaiting 18 = .ok (.arraylength, 1) := by decide +kernel
theorem dX6_serveWaiting_19 : decode cX6_serveWaiting 19 = .ok (.if_icmp .ge 49, 3) := by decide +kernel
theorem dX6_serveWaiting_22 : decode cX6_serveWaiting 22 = .ok (.aload_n 0, 1) := by decide +kernel
theorem dX6_serveWaiting_23 : decode cX6_serveWaiting 23 = .ok (.getfield 30, 3) := by decide +kernel
theorem dX6_serveWaiting_26 : decode cX6_serveWaiting 26 = .ok (.iload_n 2, 1) := by decide +kernel
theorem dX6_serveWaiting_27 : decode cX6_serveWaiting 27 = .ok (.iaload, 1) := by decide +kernel
theorem dX6_serveWaiting_28 : decode cX6_serveWaiting 28 = .ok (.iload_n 1, 1) := by decide +kernel
theorem dX6_serveWaiting_29 : decode cX6_serveWaiting 29 = .ok (.if_icmp .gt 33, 3) := by decide +kernel
theorem dX6_serveWaiting_32 : decode cX6_serveWaiting 32 = .ok (.aload_n 0, 1) := by decide +kernel
theorem dX6_serveWaiting_33 : decode cX6_serveWaiting 33 = .ok (.iload_n 1, 1) := by decide +kernel
theorem dX6_serveWaiting_34 : decode cX6_serveWaiting 34 = .ok (.invokevirtual 127, 3) := by decide +kernel
theorem dX6_serveWaiting_37 : decode cX6_serveWaiting 37 = .ok (.istore_n 3, 1) := by decide +kernel
theorem dX6_serveWaiting_38 : decode cX6_serveWaiting 38 = .ok (.iload_n 3, 1) := by decide +kernel
theorem dX6_serveWaiting_39 : decode cX6_serveWaiting 39 = .ok (.iconst (-1), 1) := by decide +kernel
theorem dX6_serveWaiting_40 : decode cX6_serveWaiting 40 = .ok (.if_icmp .ne 4, 3) := by decide +kernel
theorem dX6_serveWaiting_43 : decode cX6_serveWaiting 43 = .ok (.return_, 1) := by decide +kernel
theorem dX6_serveWaiting_44 : decode cX6_serveWaiting 44 = .ok (.aload_n 0, 1) := by decide +kernel
theorem dX6_serveWaiting_45 : decode cX6_serveWaiting 45 = .ok (.iload_n 3, 1) := by decide +kernel
theorem dX6_serveWaiting_46 : decode cX6_serveWaiting 46 = .ok (.iload_n 1, 1) := by decide +kernel
theorem dX6_serveWaiting_47 : decode cX6_serveWaiting 47 = .ok (.invokevirtual 130, 3) := by decide +kernel
theorem dX6_serveWaiting_50 : decode cX6_serveWaiting 50 = .ok (.aload_n 0, 1) := by decide +kernel
theorem dX6_serveWaiting_51 : decode cX6_serveWaiting 51 = .ok (.getfield 30, 3) := by decide +kernel
theorem dX6_serveWaiting_54 : decode cX6_serveWaiting 54 = .ok (.iload_n 2, 1) := by decide +kernel
theorem dX6_serveWaiting_55 : decode cX6_serveWaiting 55 = .ok (.aload_n 0, 1) := by decide +kernel
theorem dX6_serveWaiting_56 : decode cX6_serveWaiting 56 = .ok (.getfield 21, 3) := by decide +kernel
theorem dX6_serveWaiting_59 : decode cX6_serveWaiting 59 = .ok (.iload_n 3, 1) := by decide +kernel
theorem dX6_serveWaiting_60 : decode cX6_serveWaiting 60 = .ok (.iaload, 1) := by decide +kernel
theorem dX6_serveWaiting_61 : decode cX6_serveWaiting 61 = .ok (.iastore, 1) := by decide +kernel
theorem dX6_serveWaiting_62 : decode cX6_serveWaiting 62 = .ok (.iinc 2 1, 3) := by decide +kernel
theorem dX6_serveWaiting_65 : decode cX6_serveWaiting 65 = .ok (.goto (-63), 3) := by decide +kernel
theorem dX6_serveWaiting_68 : decode cX6_serveWaiting 68 = .ok (.return_, 1) := by decide +kernel
theorem dX6_nextServed_0 : decode cX6_nextServed 0 = .ok (.iconst (-1), 1) := by decide +kernel
theorem dX6_nextServed_1 : decode cX6_nextServed 1 = .ok (.istore_n 2, 1) := by decide +kernel
theorem dX6_nextServed_2 : decode cX6_nextServed 2 = .ok (.iconst 0, 1) := by decide +kernel
theorem dX6_nextServed_3 : decode cX6_nextServed 3 = .ok (.istore_n 3, 1) := by decide +kernel
theorem dX6_nextServed_4 : decode cX6_nextServed 4 = .ok (.iconst 0, 1) := by decide +kernel
theorem dX6_nextServed_5 : decode cX6_nextServed 5 = .ok (.istore 4, 2) := by decide +kernel
theorem dX6_nextServed_7 : decode cX6_nextServed 7 = .ok (.iload 4, 2) := by decide +kernel
theorem dX6_nextServed_9 : decode cX6_nextServed 9 = .ok (.aload_n 0, 1) := by decide +kernel
theorem dX6_nextServed_10 : decode cX6_nextServed 10 = .ok (.getfield 33, 3) := by decide +kernel
theorem dX6_nextServed_13 : decode cX6_nextServed 13 = .ok (.getfield 76, 3) := by decide +kernel
theorem dX6_nextServed_16 : decode cX6_nextServed 16 = .ok (.if_icmp .ge 99, 3) := by decide +kernel
theorem dX6_nextServed_19 : decode cX6_nextServed 19 = .ok (.aload_n 0, 1) := by decide +kernel
theorem dX6_nextServed_20 : decode cX6_nextServed 20 = .ok (.iload 4, 2) := by decide +kernel
theorem dX6_nextServed_22 : decode cX6_nextServed 22 = .ok (.invokevirtual 79, 3) := by decide +kernel
theorem dX6_nextServed_25 : decode cX6_nextServed 25 = .ok (.ifCond .eq 84, 3) := by decide +kernel
theorem dX6_nextServed_28 : decode cX6_nextServed 28 = .ok (.aload_n 0, 1) := by decide +kernel
theorem dX6_nextServed_29 : decode cX6_nextServed 29 = .ok (.getfield 18, 3) := by decide +kernel
theorem dX6_nextServed_32 : decode cX6_nextServed 32 = .ok (.iload 4, 2) := by decide +kernel
theorem dX6_nextServed_34 : decode cX6_nextServed 34 = .ok (.iaload, 1) := by decide +kernel
theorem dX6_nextServed_35 : decode cX6_nextServed 35 = .ok (.iconst (-1), 1) := by decide +kernel
theorem dX6_nextServed_36 : decode cX6_nextServed 36 = .ok (.if_icmp .ne 73, 3) := by decide +kernel
theorem dX6_nextServed_39 : decode cX6_nextServed 39 = .ok (.aload_n 0, 1) := by decide +kernel
theorem dX6_nextServed_40 : decode cX6_nextServed 40 = .ok (.getfield 9, 3) := by decide +kernel
theorem dX6_nextServed_43 : decode cX6_nextServed 43 = .ok (.iload 4, 2) := by decide +kernel
theorem dX6_nextServed_45 : decode cX6_nextServed 45 = .ok (.iaload, 1) := by decide +kernel
theorem dX6_nextServed_46 : decode cX6_nextServed 46 = .ok (.iload_n 1, 1) := by decide +kernel
theorem dX6_nextServed_47 : decode cX6_nextServed 47 = .ok (.if_icmp .gt 62, 3) := by decide +kernel
theorem dX6_nextServed_50 : decode cX6_nextServed 50 = .ok (.iload_n 1, 1) := by decide +kernel
theorem dX6_nextServed_51 : decode cX6_nextServed 51 = .ok (.aload_n 0, 1) := by decide +kernel
theorem dX6_nextServed_52 : decode cX6_nextServed 52 = .ok (.getfield 15, 3) := by decide +kernel
theorem dX6_nextServed_55 : decode cX6_nextServed 55 = .ok (.iload 4, 2) := by decide +kernel
theorem dX6_nextServed_57 : decode cX6_nextServed 57 = .ok (.iaload, 1) := by decide +kernel
theorem dX6_nextServed_58 : decode cX6_nextServed 58 = .ok (.if_icmp .ge 51, 3) := by decide +kernel
theorem dX6_nextServed_61 : decode cX6_nextServed 61 = .ok (.aload_n 0, 1) := by decide +kernel
theorem dX6_nextServed_62 : decode cX6_nextServed 62 = .ok (.iload 4, 2) := by decide +kernel
theorem dX6_nextServed_64 : decode cX6_nextServed 64 = .ok (.iload_n 1, 1) := by decide +kernel
theorem dX6_nextServed_65 : decode cX6_nextServed 65 = .ok (.invokevirtual 134, 3) := by decide +kernel
theorem dX6_nextServed_68 : decode cX6_nextServed 68 = .ok (.istore 5, 2) := by decide +kernel
theorem dX6_nextServed_70 : decode cX6_nextServed 70 = .ok (.iload_n 2, 1) := by decide +kernel
theorem dX6_nextServed_71 : decode cX6_nextServed 71 = .ok (.iconst (-1), 1) := by decide +kernel
theorem dX6_nextServed_72 : decode cX6_nextServed 72 = .ok (.if_icmp .eq 31, 3) := by decide +kernel
theorem dX6_nextServed_75 : decode cX6_nextServed 75 = .ok (.iload 5, 2) := by decide +kernel
theorem dX6_nextServed_77 : decode cX6_nextServed 77 = .ok (.iload_n 3, 1) := by decide +kernel
theorem dX6_nextServed_78 : decode cX6_nextServed 78 = .ok (.if_icmp .lt 25, 3) := by decide +kernel
theorem dX6_nextServed_81 : decode cX6_nextServed 81 = .ok (.iload 5, 2) := by decide +kernel
theorem dX6_nextServed_83 : decode cX6_nextServed 83 = .ok (.iload_n 3, 1) := by decide +kernel
theorem dX6_nextServed_84 : decode cX6_nextServed 84 = .ok (.if_icmp .ne 25, 3) := by decide +kernel
theorem dX6_nextServed_87 : decode cX6_nextServed 87 = .ok (.aload_n 0, 1) := by decide +kernel
theorem dX6_nextServed_88 : decode cX6_nextServed 88 = .ok (.getfield 9, 3) := by decide +kernel
theorem dX6_nextServed_91 : decode cX6_nextServed 91 = .ok (.iload 4, 2) := by decide +kernel
theorem dX6_nextServed_93 : decode cX6_nextServed 93 = .ok (.iaload, 1) := by decide +kernel
theorem dX6_nextServed_94 : decode cX6_nextServed 94 = .ok (.aload_n 0, 1) := by decide +kernel
theorem dX6_nextServed_95 : decode cX6_nextServed 95 = .ok (.getfield 9, 3) := by decide +kernel
theorem dX6_nextServed_98 : decode cX6_nextServed 98 = .ok (.iload_n 2, 1) := by decide +kernel
theorem dX6_nextServed_99 : decode cX6_nextServed 99 = .ok (.iaload, 1) := by decide +kernel
theorem dX6_nextServed_100 : decode cX6_nextServed 100 = .ok (.if_icmp .ge 9, 3) := by decide +kernel
theorem dX6_nextServed_103 : decode cX6_nextServed 103 = .ok (.iload 4, 2) := by decide +kernel
theorem dX6_nextServed_105 : decode cX6_nextServed 105 = .ok (.istore_n 2, 1) := by decide +kernel
theorem dX6_nextServed_106 : decode cX6_nextServed 106 = .ok (.iload 5, 2) := by decide +kernel
theorem dX6_nextServed_108 : decode cX6_nextServed 108 = .ok (.istore_n 3, 1) := by decide +kernel
theorem dX6_nextServed_109 : decode cX6_nextServed 109 = .ok (.iinc 4 1, 3) := by decide +kernel
theorem dX6_nextServed_112 : decode cX6_nextServed 112 = .ok (.goto (-105), 3) := by decide +kernel
theorem dX6_nextServed_115 : decode cX6_nextServed 115 = .ok (.iload_n 2, 1) := by decide +kernel
theorem dX6_nextServed_116 : decode cX6_nextServed 116 = .ok (.ireturn, 1) := by decide +kernel
theorem dX6_rankOf_0 : decode cX6_rankOf 0 = .ok (.aload_n 0, 1) := by decide +kernel
theorem dX6_rankOf_1 : decode cX6_rankOf 1 = .ok (.getfield 33, 3) := by decide +kernel
theorem dX6_rankOf_4 : decode cX6_rankOf 4 = .ok (.getfield 104, 3) := by decide +kernel
theorem dX6_rankOf_7 : decode cX6_rankOf 7 = .ok (.iload_n 1, 1) := by decide +kernel
theorem dX6_rankOf_8 : decode cX6_rankOf 8 = .ok (.aaload, 1) := by decide +kernel
theorem dX6_rankOf_9 : decode cX6_rankOf 9 = .ok (.getfield 108, 3) := by decide +kernel
theorem dX6_rankOf_12 : decode cX6_rankOf 12 = .ok (.iconst 1, 1) := by decide +kernel
theorem dX6_rankOf_13 : decode cX6_rankOf 13 = .ok (.if_icmp .ne 7, 3) := by decide +kernel
theorem dX6_rankOf_16 : decode cX6_rankOf 16 = .ok (.iconst 0, 1) := by decide +kernel
theorem dX6_rankOf_17 : decode cX6_rankOf 17 = .ok (.goto 4, 3) := by decide +kernel
theorem dX6_rankOf_20 : decode cX6_rankOf 20 = .ok (.iconst 1, 1) := by decide +kernel
theorem dX6_rankOf_21 : decode cX6_rankOf 21 = .ok (.istore_n 3, 1) := by decide +kernel
theorem dX6_rankOf_22 : decode cX6_rankOf 22 = .ok (.aload_n 0, 1) := by decide +kernel
theorem dX6_rankOf_23 : decode cX6_rankOf 23 = .ok (.getfield 41, 3) := by decide +kernel
theorem dX6_rankOf_26 : decode cX6_rankOf 26 = .ok (.iconst 1, 1) := by decide +kernel
theorem dX6_rankOf_27 : decode cX6_rankOf 27 = .ok (.if_icmp .ne 5, 3) := by decide +kernel
theorem dX6_rankOf_30 : decode cX6_rankOf 30 = .ok (.iconst 0, 1) := by decide +kernel
theorem dX6_rankOf_31 : decode cX6_rankOf 31 = .ok (.ireturn, 1) := by decide +kernel
theorem dX6_rankOf_32 : decode cX6_rankOf 32 = .ok (.aload_n 0, 1) := by decide +kernel
theorem dX6_rankOf_33 : decode cX6_rankOf 33 = .ok (.getfield 41, 3) := by decide +kernel
theorem dX6_rankOf_36 : decode cX6_rankOf 36 = .ok (.iconst 2, 1) := by decide +kernel
theorem dX6_rankOf_37 : decode cX6_rankOf 37 = .ok (.if_icmp .ne 7, 3) := by decide +kernel
theorem dX6_rankOf_40 : decode cX6_rankOf 40 = .ok (.iconst 1, 1) := by decide +kernel
theorem dX6_rankOf_41 : decode cX6_rankOf 41 = .ok (.iload_n 3, 1) := by decide +kernel
theorem dX6_rankOf_42 : decode cX6_rankOf 42 = .ok (.isub, 1) := by decide +kernel
theorem dX6_rankOf_43 : decode cX6_rankOf 43 = .ok (.ireturn, 1) := by decide +kernel
theorem dX6_rankOf_44 : decode cX6_rankOf 44 = .ok (.iconst 0, 1) := by decide +kernel
theorem dX6_rankOf_45 : decode cX6_rankOf 45 = .ok (.istore 4, 2) := by decide +kernel
theorem dX6_rankOf_47 : decode cX6_rankOf 47 = .ok (.iconst 0, 1) := by decide +kernel
theorem dX6_rankOf_48 : decode cX6_rankOf 48 = .ok (.istore 5, 2) := by decide +kernel
theorem dX6_rankOf_50 : decode cX6_rankOf 50 = .ok (.iload 5, 2) := by decide +kernel
theorem dX6_rankOf_52 : decode cX6_rankOf 52 = .ok (.aload_n 0, 1) := by decide +kernel
theorem dX6_rankOf_53 : decode cX6_rankOf 53 = .ok (.getfield 33, 3) := by decide +kernel
theorem dX6_rankOf_56 : decode cX6_rankOf 56 = .ok (.getfield 76, 3) := by decide +kernel
theorem dX6_rankOf_59 : decode cX6_rankOf 59 = .ok (.if_icmp .ge 41, 3) := by decide +kernel
theorem dX6_rankOf_62 : decode cX6_rankOf 62 = .ok (.iload 4, 2) := by decide +kernel
theorem dX6_rankOf_64 : decode cX6_rankOf 64 = .ok (.aload_n 0, 1) := by decide +kernel
theorem dX6_rankOf_65 : decode cX6_rankOf 65 = .ok (.iload_n 1, 1) := by decide +kernel
theorem dX6_rankOf_66 : decode cX6_rankOf 66 = .ok (.iload 5, 2) := by decide +kernel
theorem dX6_rankOf_68 : decode cX6_rankOf 68 = .ok (.invokevirtual 137, 3) := by decide +kernel
theorem dX6_rankOf_71 : decode cX6_rankOf 71 = .ok (.ifCond .eq 19, 3) := by decide +kernel
theorem dX6_rankOf_74 : decode cX6_rankOf 74 = .ok (.aload_n 0, 1) := by decide +kernel
theorem dX6_rankOf_75 : decode cX6_rankOf 75 = .ok (.getfield 33, 3) := by decide +kernel
theorem dX6_rankOf_78 : decode cX6_rankOf 78 = .ok (.getfield 104, 3) := by decide +kernel
theorem dX6_rankOf_81 : decode cX6_rankOf 81 = .ok (.iload 5, 2) := by decide +kernel
theorem dX6_rankOf_83 : decode cX6_rankOf 83 = .ok (.aaload, 1) := by decide +kernel
theorem dX6_rankOf_84 : decode cX6_rankOf 84 = .ok (.getfield 141, 3) := by decide +kernel
theorem dX6_rankOf_87 : decode cX6_rankOf 87 = .ok (.goto 4, 3) := by decide +kernel
theorem dX6_rankOf_90 : decode cX6_rankOf 90 = .ok (.iconst 0, 1) := by decide +kernel
theorem dX6_rankOf_91 : decode cX6_rankOf 91 = .ok (.iadd, 1) := by decide +kernel
theorem dX6_rankOf_92 : decode cX6_rankOf 92 = .ok (.istore 4, 2) := by decide +kernel
theorem dX6_rankOf_94 : decode cX6_rankOf 94 = .ok (.iinc 5 1, 3) := by decide +kernel
theorem dX6_rankOf_97 : decode cX6_rankOf 97 = .ok (.goto (-47), 3) := by decide +kernel
theorem dX6_rankOf_100 : decode cX6_rankOf 100 = .ok (.aload_n 0, 1) := by decide +kernel
theorem dX6_rankOf_101 : decode cX6_rankOf 101 = .ok (.getfield 33, 3) := by decide +kernel
theorem dX6_rankOf_104 : decode cX6_rankOf 104 = .ok (.getfield 144, 3) := by decide +kernel
theorem dX6_rankOf_107 : decode cX6_rankOf 107 = .ok (.aload_n 0, 1) := by decide +kernel
theorem dX6_rankOf_108 : decode cX6_rankOf 108 = .ok (.getfield 33, 3) := by decide +kernel
theorem dX6_rankOf_111 : decode cX6_rankOf 111 = .ok (.iload_n 1, 1) := by decide +kernel
theorem dX6_rankOf_112 : decode cX6_rankOf 112 = .ok (.aload_n 0, 1) := by decide +kernel
theorem dX6_rankOf_113 : decode cX6_rankOf 113 = .ok (.getfield 37, 3) := by decide +kernel
theorem dX6_rankOf_116 : decode cX6_rankOf 116 = .ok (.getfield 97, 3) := by decide +kernel
theorem dX6_rankOf_119 : decode cX6_rankOf 119 = .ok (.invokevirtual 148, 3) := by decide +kernel
theorem dX6_rankOf_122 : decode cX6_rankOf 122 = .ok (.iload_n 2, 1) := by decide +kernel
theorem dX6_rankOf_123 : decode cX6_rankOf 123 = .ok (.aload_n 0, 1) := by decide +kernel
theorem dX6_rankOf_124 : decode cX6_rankOf 124 = .ok (.getfield 9, 3) := by decide +kernel
theorem dX6_rankOf_127 : decode cX6_rankOf 127 = .ok (.iload_n 1, 1) := by decide +kernel
theorem dX6_rankOf_128 : decode cX6_rankOf 128 = .ok (.iaload, 1) := by decide +kernel
theorem dX6_rankOf_129 : decode cX6_rankOf 129 = .ok (.isub, 1) := by decide +kernel
theorem dX6_rankOf_130 : decode cX6_rankOf 130 = .ok (.iload_n 3, 1) := by decide +kernel
theorem dX6_rankOf_131 : decode cX6_rankOf 131 = .ok (.iload 4, 2) := by decide +kernel
theorem dX6_rankOf_133 : decode cX6_rankOf 133 = .ok (.invokevirtual 151, 3) := by decide +kernel
theorem dX6_rankOf_136 : decode cX6_rankOf 136 = .ok (.ireturn, 1) := by decide +kernel
theorem dX6_wantsToo_0 : decode cX6_wantsToo 0 = .ok (.iload_n 1, 1) := by decide +kernel
theorem dX6_wantsToo_1 : decode cX6_wantsToo 1 = .ok (.iload_n 2, 1) := by decide +kernel
theorem dX6_wantsToo_2 : decode cX6_wantsToo 2 = .ok (.if_icmp .eq 22, 3) := by decide +kernel
theorem dX6_wantsToo_5 : decode cX6_wantsToo 5 = .ok (.iload_n 1, 1) := by decide +kernel
theorem dX6_wantsToo_6 : decode cX6_wantsToo 6 = .ok (.aload_n 0, 1) := by decide +kernel
theorem dX6_wantsToo_7 : decode cX6_wantsToo 7 = .ok (.getfield 48, 3) := by decide +kernel
theorem dX6_wantsToo_10 : decode cX6_wantsToo 10 = .ok (.if_icmp .ne 18, 3) := by decide +kernel
theorem dX6_wantsToo_13 : decode cX6_wantsToo 13 = .ok (.aload_n 0, 1) := by decide +kernel
theorem dX6_wantsToo_14 : decode cX6_wantsToo 14 = .ok (.getfield 45, 3) := by decide +kernel
theorem dX6_wantsToo_17 : decode cX6_wantsToo 17 = .ok (.iload_n 2, 1) := by decide +kernel
theorem dX6_wantsToo_18 : decode cX6_wantsToo 18 = .ok (.ishr, 1) := by decide +kernel
theorem dX6_wantsToo_19 : decode cX6_wantsToo 19 = .ok (.iconst 1, 1) := by decide +kernel
theorem dX6_wantsToo_20 : decode cX6_wantsToo 20 = .ok (.iand, 1) := by decide +kernel
theorem dX6_wantsToo_21 : decode cX6_wantsToo 21 = .ok (.ifCond .eq 7, 3) := by decide +kernel
theorem dX6_wantsToo_24 : decode cX6_wantsToo 24 = .ok (.iconst 1, 1) := by decide +kernel
theorem dX6_wantsToo_25 : decode cX6_wantsToo 25 = .ok (.goto 4, 3) := by decide +kernel
theorem dX6_wantsToo_28 : decode cX6_wantsToo 28 = .ok (.iconst 0, 1) := by decide +kernel
theorem dX6_wantsToo_29 : decode cX6_wantsToo 29 = .ok (.ireturn, 1) := by decide +kernel
theorem dX6_begin_0 : decode cX6_begin 0 = .ok (.aload_n 0, 1) := by decide +kernel
theorem dX6_begin_1 : decode cX6_begin 1 = .ok (.getfield 33, 3) := by decide +kernel
theorem dX6_begin_4 : decode cX6_begin 4 = .ok (.getfield 104, 3) := by decide +kernel
theorem dX6_begin_7 : decode cX6_begin 7 = .ok (.iload_n 1, 1) := by decide +kernel
theorem dX6_begin_8 : decode cX6_begin 8 = .ok (.aaload, 1) := by decide +kernel
theorem dX6_begin_9 : decode cX6_begin 9 = .ok (.getfield 108, 3) := by decide +kernel
theorem dX6_begin_12 : decode cX6_begin 12 = .ok (.iconst 1, 1) := by decide +kernel
theorem dX6_begin_13 : decode cX6_begin 13 = .ok (.if_icmp .ne 13, 3) := by decide +kernel
theorem dX6_begin_16 : decode cX6_begin 16 = .ok (.aload_n 0, 1) := by decide +kernel
theorem dX6_begin_17 : decode cX6_begin 17 = .ok (.getfield 33, 3) := by decide +kernel
theorem dX6_begin_20 : decode cX6_begin 20 = .ok (.getfield 157, 3) := by decide +kernel
theorem dX6_begin_23 : decode cX6_begin 23 = .ok (.goto 4, 3) := by decide +kernel
theorem dX6_begin_26 : decode cX6_begin 26 = .ok (.iconst 0, 1) := by decide +kernel
theorem dX6_begin_27 : decode cX6_begin 27 = .ok (.istore_n 3, 1) := by decide +kernel
theorem dX6_begin_28 : decode cX6_begin 28 = .ok (.iconst 0, 1) := by decide +kernel
theorem dX6_begin_29 : decode cX6_begin 29 = .ok (.istore 4, 2) := by decide +kernel
theorem dX6_begin_31 : decode cX6_begin 31 = .ok (.iload 4, 2) := by decide +kernel
theorem dX6_begin_33 : decode cX6_begin 33 = .ok (.aload_n 0, 1) := by decide +kernel
theorem dX6_begin_34 : decode cX6_begin 34 = .ok (.getfield 33, 3) := by decide +kernel
theorem dX6_begin_37 : decode cX6_begin 37 = .ok (.getfield 76, 3) := by decide +kernel
theorem dX6_begin_40 : decode cX6_begin 40 = .ok (.if_icmp .ge 35, 3) := by decide +kernel
theorem dX6_begin_43 : decode cX6_begin 43 = .ok (.iload_n 3, 1) := by decide +kernel
theorem dX6_begin_44 : decode cX6_begin 44 = .ok (.aload_n 0, 1) := by decide +kernel
theorem dX6_begin_45 : decode cX6_begin 45 = .ok (.iload_n 1, 1) := by decide +kernel
theorem dX6_begin_46 : decode cX6_begin 46 = .ok (.iload 4, 2) := by decide +kernel
theorem dX6_begin_48 : decode cX6_begin 48 = .ok (.invokevirtual 137, 3) := by decide +kernel
theorem dX6_begin_51 : decode cX6_begin 51 = .ok (.ifCond .eq 15, 3) := by decide +kernel
theorem dX6_begin_54 : decode cX6_begin 54 = .ok (.aload_n 0, 1) := by decide +kernel
theorem dX6_begin_55 : decode cX6_begin 55 = .ok (.getfield 33, 3) := by decide +kernel
theorem dX6_begin_58 : decode cX6_begin 58 = .ok (.iload 4, 2) := by decide +kernel
theorem dX6_begin_60 : decode cX6_begin 60 = .ok (.invokevirtual 160, 3) := by decide +kernel
theorem dX6_begin_63 : decode cX6_begin 63 = .ok (.goto 4, 3) := by decide +kernel
theorem dX6_begin_66 : decode cX6_begin 66 = .ok (.iconst 0, 1) := by decide +kernel
theorem dX6_begin_67 : decode cX6_begin 67 = .ok (.iadd, 1) := by decide +kernel
theorem dX6_begin_68 : decode cX6_begin 68 = .ok (.istore_n 3, 1) := by decide +kernel
theorem dX6_begin_69 : decode cX6_begin 69 = .ok (.iinc 4 1, 3) := by decide +kernel
theorem dX6_begin_72 : decode cX6_begin 72 = .ok (.goto (-41), 3) := by decide +kernel
theorem dX6_begin_75 : decode cX6_begin 75 = .ok (.aload_n 0, 1) := by decide +kernel
theorem dX6_begin_76 : decode cX6_begin 76 = .ok (.getfield 54, 3) := by decide +kernel
theorem dX6_begin_79 : decode cX6_begin 79 = .ok (.ifCond .le 74, 3) := by decide +kernel
theorem dX6_begin_82 : decode cX6_begin 82 = .ok (.aload_n 0, 1) := by decide +kernel
theorem dX6_begin_83 : decode cX6_begin 83 = .ok (.getfield 51, 3) := by decide +kernel
theorem dX6_begin_86 : decode cX6_begin 86 = .ok (.ifCond .lt 67, 3) := by decide +kernel
theorem dX6_begin_89 : decode cX6_begin 89 = .ok (.aload_n 0, 1) := by decide +kernel
theorem dX6_begin_90 : decode cX6_begin 90 = .ok (.getfield 33, 3) := by decide +kernel
theorem dX6_begin_93 : decode cX6_begin 93 = .ok (.getfield 104, 3) := by decide +kernel
theorem dX6_begin_96 : decode cX6_begin 96 = .ok (.iload_n 1, 1) := by decide +kernel
theorem dX6_begin_97 : decode cX6_begin 97 = .ok (.aaload, 1) := by decide +kernel
theorem dX6_begin_98 : decode cX6_begin 98 = .ok (.getfield 163, 3) := by decide +kernel
theorem dX6_begin_101 : decode cX6_begin 101 = .ok (.aload_n 0, 1) := by decide +kernel
theorem dX6_begin_102 : decode cX6_begin 102 = .ok (.getfield 51, 3) := by decide +kernel
theorem dX6_begin_105 : decode cX6_begin 105 = .ok (.ishr, 1) := by decide +kernel
theorem dX6_begin_106 : decode cX6_begin 106 = .ok (.iconst 1, 1) := by decide +kernel
theorem dX6_begin_107 : decode cX6_begin 107 = .ok (.iand, 1) := by decide +kernel
theorem dX6_begin_108 : decode cX6_begin 108 = .ok (.ifCond .eq 45, 3) := by decide +kernel
theorem dX6_begin_111 : decode cX6_begin 111 = .ok (.aload_n 0, 1) := by decide +kernel
theorem dX6_begin_112 : decode cX6_begin 112 = .ok (.dup, 1) := by decide +kernel
theorem dX6_begin_113 : decode cX6_begin 113 = .ok (.getfield 54, 3) := by decide +kernel
theorem dX6_begin_116 : decode cX6_begin 116 = .ok (.iconst 1, 1) := by decide +kernel
theorem dX6_begin_117 : decode cX6_begin 117 = .ok (.isub, 1) := by decide +kernel
theorem dX6_begin_118 : decode cX6_begin 118 = .ok (.putfield 54, 3) := by decide +kernel
theorem dX6_begin_121 : decode cX6_begin 121 = .ok (.aload_n 0, 1) := by decide +kernel
theorem dX6_begin_122 : decode cX6_begin 122 = .ok (.dup, 1) := by decide +kernel
theorem dX6_begin_123 : decode cX6_begin 123 = .ok (.getfield 94, 3) := by decide +kernel
theorem dX6_begin_126 : decode cX6_begin 126 = .ok (.iconst 1, 1) := by decide +kernel
theorem dX6_begin_127 : decode cX6_begin 127 = .ok (.iload_n 1, 1) := by decide +kernel
theorem dX6_begin_128 : decode cX6_begin 128 = .ok (.ishl, 1) := by decide +kernel
theorem dX6_begin_129 : decode cX6_begin 129 = .ok (.ior, 1) := by decide +kernel
theorem dX6_begin_130 : decode cX6_begin 130 = .ok (.putfield 94, 3) := by decide +kernel
theorem dX6_begin_133 : decode cX6_begin 133 = .ok (.iload_n 3, 1) := by decide +kernel
theorem dX6_begin_134 : decode cX6_begin 134 = .ok (.iconst 1, 1) := by decide +kernel
theorem dX6_begin_135 : decode cX6_begin 135 = .ok (.aload_n 0, 1) := by decide +kernel
theorem dX6_begin_136 : decode cX6_begin 136 = .ok (.getfield 33, 3) := by decide +kernel
theorem dX6_begin_139 : decode cX6_begin 139 = .ok (.getfield 166, 3) := by decide +kernel
theorem dX6_begin_142 : decode cX6_begin 142 = .ok (.aload_n 0, 1) := by decide +kernel
theorem dX6_begin_143 : decode cX6_begin 143 = .ok (.getfield 51, 3) := by decide +kernel
theorem dX6_begin_146 : decode cX6_begin 146 = .ok (.aaload, 1) := by decide +kernel
theorem dX6_begin_147 : decode cX6_begin 147 = .ok (.getfield 170, 3) := by decide +kernel
theorem dX6_begin_150 : decode cX6_begin 150 = .ok (.isub, 1) := by decide +kernel
theorem dX6_begin_151 : decode cX6_begin 151 = .ok (.iadd, 1) := by decide +kernel
theorem dX6_begin_152 : decode cX6_begin 152 = .ok (.istore_n 3, 1) := by decide +kernel
theorem dX6_begin_153 : decode cX6_begin 153 = .ok (.aload_n 0, 1) := by decide +kernel
theorem dX6_begin_154 : decode cX6_begin 154 = .ok (.getfield 18, 3) := by decide +kernel
theorem dX6_begin_157 : decode cX6_begin 157 = .ok (.iload_n 1, 1) := by decide +kernel
theorem dX6_begin_158 : decode cX6_begin 158 = .ok (.iload_n 2, 1) := by decide +kernel
theorem dX6_begin_159 : decode cX6_begin 159 = .ok (.iastore, 1) := by decide +kernel
theorem dX6_begin_160 : decode cX6_begin 160 = .ok (.aload_n 0, 1) := by decide +kernel
theorem dX6_begin_161 : decode cX6_begin 161 = .ok (.getfield 21, 3) := by decide +kernel
theorem dX6_begin_164 : decode cX6_begin 164 = .ok (.iload_n 1, 1) := by decide +kernel
theorem dX6_begin_165 : decode cX6_begin 165 = .ok (.iload_n 2, 1) := by decide +kernel
theorem dX6_begin_166 : decode cX6_begin 166 = .ok (.iload_n 3, 1) := by decide +kernel
theorem dX6_begin_167 : decode cX6_begin 167 = .ok (.iadd, 1) := by decide +kernel
theorem dX6_begin_168 : decode cX6_begin 168 = .ok (.iastore, 1) := by decide +kernel
theorem dX6_begin_169 : decode cX6_begin 169 = .ok (.return_, 1) := by decide +kernel
theorem dX6_endFor_0 : decode cX6_endFor 0 = .ok (.aload_n 0, 1) := by decide +kernel
theorem dX6_endFor_1 : decode cX6_endFor 1 = .ok (.getfield 15, 3) := by decide +kernel
theorem dX6_endFor_4 : decode cX6_endFor 4 = .ok (.iload_n 1, 1) := by decide +kernel
theorem dX6_endFor_5 : decode cX6_endFor 5 = .ok (.iaload, 1) := by decide +kernel
theorem dX6_endFor_6 : decode cX6_endFor 6 = .ok (.istore_n 2, 1) := by decide +kernel
theorem dX6_endFor_7 : decode cX6_endFor 7 = .ok (.aload_n 0, 1) := by decide +kernel
theorem dX6_endFor_8 : decode cX6_endFor 8 = .ok (.getfield 21, 3) := by decide +kernel
theorem dX6_endFor_11 : decode cX6_endFor 11 = .ok (.iload_n 1, 1) := by decide +kernel
theorem dX6_endFor_12 : decode cX6_endFor 12 = .ok (.iaload, 1) := by decide +kernel
theorem dX6_endFor_13 : decode cX6_endFor 13 = .ok (.iload_n 2, 1) := by decide +kernel
theorem dX6_endFor_14 : decode cX6_endFor 14 = .ok (.if_icmp .le 31, 3) := by decide +kernel
theorem dX6_endFor_17 : decode cX6_endFor 17 = .ok (.aload_n 0, 1) := by decide +kernel
theorem dX6_endFor_18 : decode cX6_endFor 18 = .ok (.getfield 21, 3) := by decide +kernel
theorem dX6_endFor_21 : decode cX6_endFor 21 = .ok (.iload_n 1, 1) := by decide +kernel
theorem dX6_endFor_22 : decode cX6_endFor 22 = .ok (.iaload, 1) := by decide +kernel
theorem dX6_endFor_23 : decode cX6_endFor 23 = .ok (.istore_n 2, 1) := by decide +kernel
theorem dX6_endFor_24 : decode cX6_endFor 24 = .ok (.aload_n 0, 1) := by decide +kernel
theorem dX6_endFor_25 : decode cX6_endFor 25 = .ok (.getfield 27, 3) := by decide +kernel
theorem dX6_endFor_28 : decode cX6_endFor 28 = .ok (.iload_n 1, 1) := by decide +kernel
theorem dX6_endFor_29 : decode cX6_endFor 29 = .ok (.aload_n 0, 1) := by decide +kernel
theorem dX6_endFor_30 : decode cX6_endFor 30 = .ok (.getfield 33, 3) := by decide +kernel
theorem dX6_endFor_33 : decode cX6_endFor 33 = .ok (.getfield 104, 3) := by decide +kernel
theorem dX6_endFor_36 : decode cX6_endFor 36 = .ok (.iload_n 1, 1) := by decide +kernel
theorem dX6_endFor_37 : decode cX6_endFor 37 = .ok (.aaload, 1) := by decide +kernel
theorem dX6_endFor_38 : decode cX6_endFor 38 = .ok (.getfield 163, 3) := by decide +kernel
theorem dX6_endFor_41 : decode cX6_endFor 41 = .ok (.iastore, 1) := by decide +kernel
theorem dX6_endFor_42 : decode cX6_endFor 42 = .ok (.goto 18, 3) := by decide +kernel
theorem dX6_endFor_45 : decode cX6_endFor 45 = .ok (.aload_n 0, 1) := by decide +kernel
theorem dX6_endFor_46 : decode cX6_endFor 46 = .ok (.getfield 21, 3) := by decide +kernel
theorem dX6_endFor_49 : decode cX6_endFor 49 = .ok (.iload_n 1, 1) := by decide +kernel
theorem dX6_endFor_50 : decode cX6_endFor 50 = .ok (.iaload, 1) := by decide +kernel
theorem dX6_endFor_51 : decode cX6_endFor 51 = .ok (.iconst (-1), 1) := by decide +kernel
theorem dX6_endFor_52 : decode cX6_endFor 52 = .ok (.if_icmp .eq 8, 3) := by decide +kernel
theorem dX6_endFor_55 : decode cX6_endFor 55 = .ok (.aload_n 0, 1) := by decide +kernel
theorem dX6_endFor_56 : decode cX6_endFor 56 = .ok (.iload_n 1, 1) := by decide +kernel
theorem dX6_endFor_57 : decode cX6_endFor 57 = .ok (.invokevirtual 175, 3) := by decide +kernel
theorem dX6_endFor_60 : decode cX6_endFor 60 = .ok (.iload_n 2, 1) := by decide +kernel
theorem dX6_endFor_61 : decode cX6_endFor 61 = .ok (.aload_n 0, 1) := by decide +kernel
theorem dX6_endFor_62 : decode cX6_endFor 62 = .ok (.getfield 33, 3) := by decide +kernel
theorem dX6_endFor_65 : decode cX6_endFor 65 = .ok (.iload_n 1, 1) := by decide +kernel
theorem dX6_endFor_66 : decode cX6_endFor 66 = .ok (.aload_n 0, 1) := by decide +kernel
theorem dX6_endFor_67 : decode cX6_endFor 67 = .ok (.getfield 37, 3) := by decide +kernel
theorem dX6_endFor_70 : decode cX6_endFor 70 = .ok (.getfield 97, 3) := by decide +kernel
theorem dX6_endFor_73 : decode cX6_endFor 73 = .ok (.invokevirtual 100, 3) := by decide +kernel
theorem dX6_endFor_76 : decode cX6_endFor 76 = .ok (.iadd, 1) := by decide +kernel
theorem dX6_endFor_77 : decode cX6_endFor 77 = .ok (.aload_n 0, 1) := by decide +kernel
theorem dX6_endFor_78 : decode cX6_endFor 78 = .ok (.getfield 33, 3) := by decide +kernel
theorem dX6_endFor_81 : decode cX6_endFor 81 = .ok (.getfield 63, 3) := by decide +kernel
theorem dX6_endFor_84 : decode cX6_endFor 84 = .ok (.if_icmp .le 15, 3) := by decide +kernel
theorem dX6_endFor_87 : decode cX6_endFor 87 = .ok (.aload_n 0, 1) := by decide +kernel
theorem dX6_endFor_88 : decode cX6_endFor 88 = .ok (.dup, 1) := by decide +kernel
theorem dX6_endFor_89 : decode cX6_endFor 89 = .ok (.getfield 91, 3) := by decide +kernel
theorem dX6_endFor_92 : decode cX6_endFor 92 = .ok (.iconst 1, 1) := by decide +kernel
theorem dX6_endFor_93 : decode cX6_endFor 93 = .ok (.iload_n 1, 1) := by decide +kernel
theorem dX6_endFor_94 : decode cX6_endFor 94 = .ok (.ishl, 1) := by decide +kernel
theorem dX6_endFor_95 : decode cX6_endFor 95 = .ok (.ior, 1) := by decide +kernel
theorem dX6_endFor_96 : decode cX6_endFor 96 = .ok (.putfield 91, 3) := by decide +kernel
theorem dX6_endFor_99 : decode cX6_endFor 99 = .ok (.return_, 1) := by decide +kernel
theorem dX6_drink_0 : decode cX6_drink 0 = .ok (.aload_n 0, 1) := by decide +kernel
theorem dX6_drink_1 : decode cX6_drink 1 = .ok (.getfield 33, 3) := by decide +kernel
theorem dX6_drink_4 : decode cX6_drink 4 = .ok (.getfield 104, 3) := by decide +kernel
theorem dX6_drink_7 : decode cX6_drink 7 = .ok (.iload_n 1, 1) := by decide +kernel
theorem dX6_drink_8 : decode cX6_drink 8 = .ok (.aaload, 1) := by decide +kernel
theorem dX6_drink_9 : decode cX6_drink 9 = .ok (.astore_n 2, 1) := by decide +kernel
theorem dX6_drink_10 : decode cX6_drink 10 = .ok (.aload_n 0, 1) := by decide +kernel
theorem dX6_drink_11 : decode cX6_drink 11 = .ok (.getfield 21, 3) := by decide +kernel
theorem dX6_drink_14 : decode cX6_drink 14 = .ok (.iload_n 1, 1) := by decide +kernel
theorem dX6_drink_15 : decode cX6_drink 15 = .ok (.iaload, 1) := by decide +kernel
theorem dX6_drink_16 : decode cX6_drink 16 = .ok (.istore_n 3, 1) := by decide +kernel
theorem dX6_drink_17 : decode cX6_drink 17 = .ok (.iconst 1, 1) := by decide +kernel
theorem dX6_drink_18 : decode cX6_drink 18 = .ok (.istore 4, 2) := by decide +kernel
theorem dX6_drink_20 : decode cX6_drink 20 = .ok (.iconst 0, 1) := by decide +kernel
theorem dX6_drink_21 : decode cX6_drink 21 = .ok (.istore 5, 2) := by decide +kernel
theorem dX6_drink_23 : decode cX6_drink 23 = .ok (.iload 5, 2) := by decide +kernel
theorem dX6_drink_25 : decode cX6_drink 25 = .ok (.aload_n 2, 1) := by decide +kernel
theorem dX6_drink_26 : decode cX6_drink 26 = .ok (.getfield 141, 3) := by decide +kernel
theorem dX6_drink_29 : decode cX6_drink 29 = .ok (.if_icmp .ge 183, 3) := by decide +kernel
theorem dX6_drink_32 : decode cX6_drink 32 = .ok (.aload_n 2, 1) := by decide +kernel
theorem dX6_drink_33 : decode cX6_drink 33 = .ok (.getfield 178, 3) := by decide +kernel
theorem dX6_drink_36 : decode cX6_drink 36 = .ok (.iload 5, 2) := by decide +kernel
theorem dX6_drink_38 : decode cX6_drink 38 = .ok (.iaload, 1) := by decide +kernel
theorem dX6_drink_39 : decode cX6_drink 39 = .ok (.istore 6, 2) := by decide +kernel
theorem dX6_drink_41 : decode cX6_drink 41 = .ok (.iload 6, 2) := by decide +kernel
theorem dX6_drink_43 : decode cX6_drink 43 = .ok (.aload_n 0, 1) := by decide +kernel
theorem dX6_drink_44 : decode cX6_drink 44 = .ok (.getfield 51, 3) := by decide +kernel
theorem dX6_drink_47 : decode cX6_drink 47 = .ok (.if_icmp .ne 18, 3) := by decide +kernel
theorem dX6_drink_50 : decode cX6_drink 50 = .ok (.aload_n 0, 1) := by decide +kernel
theorem dX6_drink_51 : decode cX6_drink 51 = .ok (.getfield 94, 3) := by decide +kernel
theorem dX6_drink_54 : decode cX6_drink 54 = .ok (.iload_n 1, 1) := by decide +kernel
theorem dX6_drink_55 : decode cX6_drink 55 = .ok (.ishr, 1) := by decide +kernel
theorem dX6_drink_56 : decode cX6_drink 56 = .ok (.iconst 1, 1) := by decide +kernel
theorem dX6_drink_57 : decode cX6_drink 57 = .ok (.iand, 1) := by decide +kernel
theorem dX6_drink_58 : decode cX6_drink 58 = .ok (.ifCond .eq 7, 3) := by decide +kernel
theorem dX6_drink_61 : decode cX6_drink 61 = .ok (.iconst 1, 1) := by decide +kernel
theorem dX6_drink_62 : decode cX6_drink 62 = .ok (.goto 4, 3) := by decide +kernel
theorem dX6_drink_65 : decode cX6_drink 65 = .ok (.iconst 0, 1) := by decide +kernel
theorem dX6_drink_66 : decode cX6_drink 66 = .ok (.istore 7, 2) := by decide +kernel
theorem dX6_drink_68 : decode cX6_drink 68 = .ok (.iload 7, 2) := by decide +kernel
theorem dX6_drink_70 : decode cX6_drink 70 = .ok (.ifCond .eq 13, 3) := by decide +kernel
theorem dX6_drink_73 : decode cX6_drink 73 = .ok (.bipush (-60), 2) := by decide +kernel
theorem dX6_drink_75 : decode cX6_drink 75 = .ok (.aload_n 0, 1) := by decide +kernel
theorem dX6_drink_76 : decode cX6_drink 76 = .ok (.getfield 57, 3) := by decide +kernel
theorem dX6_drink_79 : decode cX6_drink 79 = .ok (.imul, 1) := by decide +kernel
theorem dX6_drink_80 : decode cX6_drink 80 = .ok (.goto 9, 3) := by decide +kernel
theorem dX6_drink_83 : decode cX6_drink 83 = .ok (.aload_n 0, 1) := by decide +kernel
theorem dX6_drink_84 : decode cX6_drink 84 = .ok (.getfield 21, 3) := by decide +kernel
theorem dX6_drink_87 : decode cX6_drink 87 = .ok (.iload_n 1, 1) := by decide +kernel
theorem dX6_drink_88 : decode cX6_drink 88 = .ok (.iaload, 1) := by decide +kernel
theorem dX6_drink_89 : decode cX6_drink 89 = .ok (.istore 8, 2) := by decide +kernel
theorem dX6_drink_91 : decode cX6_drink 91 = .ok (.iload_n 3, 1) := by decide +kernel
theorem dX6_drink_92 : decode cX6_drink 92 = .ok (.iload 8, 2) := by decide +kernel
theorem dX6_drink_94 : decode cX6_drink 94 = .ok (.aload_n 0, 1) := by decide +kernel
theorem dX6_drink_95 : decode cX6_drink 95 = .ok (.iload 6, 2) := by decide +kernel
theorem dX6_drink_97 : decode cX6_drink 97 = .ok (.invokevirtual 181, 3) := by decide +kernel
theorem dX6_drink_100 : decode cX6_drink 100 = .ok (.iadd, 1) := by decide +kernel
theorem dX6_drink_101 : decode cX6_drink 101 = .ok (.invokestatic 184, 3) := by decide +kernel
theorem dX6_drink_104 : decode cX6_drink 104 = .ok (.istore 9, 2) := by decide +kernel
theorem dX6_drink_106 : decode cX6_drink 106 = .ok (.iload 4, 2) := by decide +kernel
theorem dX6_drink_108 : decode cX6_drink 108 = .ok (.ifCond .eq 26, 3) := by decide +kernel
theorem dX6_drink_111 : decode cX6_drink 111 = .ok (.iload 9, 2) := by decide +kernel
theorem dX6_drink_113 : decode cX6_drink 113 = .ok (.aload_n 0, 1) := by decide +kernel
theorem dX6_drink_114 : decode cX6_drink 114 = .ok (.getfield 33, 3) := by decide +kernel
theorem dX6_drink_117 : decode cX6_drink 117 = .ok (.getfield 187, 3) := by decide +kernel
theorem dX6_drink_120 : decode cX6_drink 120 = .ok (.iadd, 1) := by decide +kernel
theorem dX6_drink_121 : decode cX6_drink 121 = .ok (.aload_n 0, 1) := by decide +kernel
theorem dX6_drink_122 : decode cX6_drink 122 = .ok (.getfield 15, 3) := by decide +kernel
theorem dX6_drink_125 : decode cX6_drink 125 = .ok (.iload_n 1, 1) := by decide +kernel
theorem dX6_drink_126 : decode cX6_drink 126 = .ok (.iaload, 1) := by decide +kernel
theorem dX6_drink_127 : decode cX6_drink 127 = .ok (.if_icmp .gt 7, 3) := by decide +kernel
theorem dX6_drink_130 : decode cX6_drink 130 = .ok (.iconst 1, 1) := by decide +kernel
theorem dX6_drink_131 : decode cX6_drink 131 = .ok (.goto 4, 3) := by decide +kernel
theorem dX6_drink_134 : decode cX6_drink 134 = .ok (.iconst 0, 1) := by decide +kernel
theorem dX6_drink_135 : decode cX6_drink 135 = .ok (.istore 4, 2) := by decide +kernel
theorem dX6_drink_137 : decode cX6_drink 137 = .ok (.iload 4, 2) := by decide +kernel
theorem dX6_drink_139 : decode cX6_drink 139 = .ok (.ifCond .eq 51, 3) := by decide +kernel
theorem dX6_drink_142 : decode cX6_drink 142 = .ok (.iload 7, 2) := by decide +kernel
theorem dX6_drink_144 : decode cX6_drink 144 = .ok (.ifCond .eq 19, 3) := by decide +kernel
theorem dX6_drink_147 : decode cX6_drink 147 = .ok (.aload_n 0, 1) := by decide +kernel
theorem dX6_drink_148 : decode cX6_drink 148 = .ok (.iload 6, 2) := by decide +kernel
theorem dX6_drink_150 : decode cX6_drink 150 = .ok (.iload 9, 2) := by decide +kernel
theorem dX6_drink_152 : decode cX6_drink 152 = .ok (.iload 8, 2) := by decide +kernel
theorem dX6_drink_154 : decode cX6_drink 154 = .ok (.isub, 1) := by decide +kernel
theorem dX6_drink_155 : decode cX6_drink 155 = .ok (.invokevirtual 190, 3) := by decide +kernel
theorem dX6_drink_158 : decode cX6_drink 158 = .ok (.bipush 20, 2) := by decide +kernel
theorem dX6_drink_160 : decode cX6_drink 160 = .ok (.if_icmp .lt 30, 3) := by decide +kernel
theorem dX6_drink_163 : decode cX6_drink 163 = .ok (.aload_n 0, 1) := by decide +kernel
theorem dX6_drink_164 : decode cX6_drink 164 = .ok (.getfield 24, 3) := by decide +kernel
theorem dX6_drink_167 : decode cX6_drink 167 = .ok (.iload_n 1, 1) := by decide +kernel
theorem dX6_drink_168 : decode cX6_drink 168 = .ok (.dup2, 1) := by decide +kernel
theorem dX6_drink_169 : decode cX6_drink 169 = .ok (.iaload, 1) := by decide +kernel
theorem dX6_drink_170 : decode cX6_drink 170 = .ok (.iconst 1, 1) := by decide +kernel
theorem dX6_drink_171 : decode cX6_drink 171 = .ok (.iload 6, 2) := by decide +kernel
theorem dX6_drink_173 : decode cX6_drink 173 = .ok (.ishl, 1) := by decide +kernel
theorem dX6_drink_174 : decode cX6_drink 174 = .ok (.ior, 1) := by decide +kernel
theorem dX6_drink_175 : decode cX6_drink 175 = .ok (.iastore, 1) := by decide +kernel
theorem dX6_drink_176 : decode cX6_drink 176 = .ok (.iload 9, 2) := by decide +kernel
theorem dX6_drink_178 : decode cX6_drink 178 = .ok (.aload_n 0, 1) := by decide +kernel
theorem dX6_drink_179 : decode cX6_drink 179 = .ok (.getfield 33, 3) := by decide +kernel
theorem dX6_drink_182 : decode cX6_drink 182 = .ok (.getfield 187, 3) := by decide +kernel
theorem dX6_drink_185 : decode cX6_drink 185 = .ok (.iadd, 1) := by decide +kernel
theorem dX6_drink_186 : decode cX6_drink 186 = .ok (.istore_n 3, 1) := by decide +kernel
theorem dX6_drink_187 : decode cX6_drink 187 = .ok (.goto 19, 3) := by decide +kernel
theorem dX6_drink_190 : decode cX6_drink 190 = .ok (.aload_n 0, 1) := by decide +kernel
theorem dX6_drink_191 : decode cX6_drink 191 = .ok (.getfield 27, 3) := by decide +kernel
theorem dX6_drink_194 : decode cX6_drink 194 = .ok (.iload_n 1, 1) := by decide +kernel
theorem dX6_drink_195 : decode cX6_drink 195 = .ok (.dup2, 1) := by decide +kernel
theorem dX6_drink_196 : decode cX6_drink 196 = .ok (.iaload, 1) := by decide +kernel
theorem dX6_drink_197 : decode cX6_drink 197 = .ok (.iconst 1, 1) := by decide +kernel
theorem dX6_drink_198 : decode cX6_drink 198 = .ok (.iload 6, 2) := by decide +kernel
theorem dX6_drink_200 : decode cX6_drink 200 = .ok (.ishl, 1) := by decide +kernel
theorem dX6_drink_201 : decode cX6_drink 201 = .ok (.ior, 1) := by decide +kernel
theorem dX6_drink_202 : decode cX6_drink 202 = .ok (.iastore, 1) := by decide +kernel
theorem dX6_drink_203 : decode cX6_drink 203 = .ok (.iload 9, 2) := by decide +kernel
theorem dX6_drink_205 : decode cX6_drink 205 = .ok (.istore_n 3, 1) := by decide +kernel
theorem dX6_drink_206 : decode cX6_drink 206 = .ok (.iinc 5 1, 3) := by decide +kernel
theorem dX6_drink_209 : decode cX6_drink 209 = .ok (.goto (-186), 3) := by decide +kernel
theorem dX6_drink_212 : decode cX6_drink 212 = .ok (.return_, 1) := by decide +kernel
theorem dX6_coolsWithin_0 : decode cX6_coolsWithin 0 = .ok (.aload_n 0, 1) := by decide +kernel
theorem dX6_coolsWithin_1 : decode cX6_coolsWithin 1 = .ok (.getfield 33, 3) := by decide +kernel
theorem dX6_coolsWithin_4 : decode cX6_coolsWithin 4 = .ok (.getfield 166, 3) := by decide +kernel
theorem dX6_coolsWithin_7 : decode cX6_coolsWithin 7 = .ok (.iload_n 1, 1) := by decide +kernel
theorem dX6_coolsWithin_8 : decode cX6_coolsWithin 8 = .ok (.aaload, 1) := by decide +kernel
theorem dX6_coolsWithin_9 : decode cX6_coolsWithin 9 = .ok (.astore_n 2, 1) := by decide +kernel
theorem dX6_coolsWithin_10 : decode cX6_coolsWithin 10 = .ok (.aload_n 0, 1) := by decide +kernel
theorem dX6_coolsWithin_11 : decode cX6_coolsWithin 11 = .ok (.getfield 37, 3) := by decide +kernel
theorem dX6_coolsWithin_14 : decode cX6_coolsWithin 14 = .ok (.getfield 193, 3) := by decide +kernel
theorem dX6_coolsWithin_17 : decode cX6_coolsWithin 17 = .ok (.iload_n 1, 1) := by decide +kernel
theorem dX6_coolsWithin_18 : decode cX6_coolsWithin 18 = .ok (.iaload, 1) := by decide +kernel
theorem dX6_coolsWithin_19 : decode cX6_coolsWithin 19 = .ok (.aload_n 0, 1) := by decide +kernel
theorem dX6_coolsWithin_20 : decode cX6_coolsWithin 20 = .ok (.getfield 33, 3) := by decide +kernel
theorem dX6_coolsWithin_23 : decode cX6_coolsWithin 23 = .ok (.getfield 196, 3) := by decide +kernel
theorem dX6_coolsWithin_26 : decode cX6_coolsWithin 26 = .ok (.isub, 1) := by decide +kernel
theorem dX6_coolsWithin_27 : decode cX6_coolsWithin 27 = .ok (.istore_n 3, 1) := by decide +kernel
theorem dX6_coolsWithin_28 : decode cX6_coolsWithin 28 = .ok (.aload_n 2, 1) := by decide +kernel
theorem dX6_coolsWithin_29 : decode cX6_coolsWithin 29 = .ok (.getfield 199, 3) := by decide +kernel
theorem dX6_coolsWithin_32 : decode cX6_coolsWithin 32 = .ok (.iconst 2, 1) := by decide +kernel
theorem dX6_coolsWithin_33 : decode cX6_coolsWithin 33 = .ok (.if_icmp .eq 7, 3) := by decide +kernel
theorem dX6_coolsWithin_36 : decode cX6_coolsWithin 36 = .ok (.iload_n 3, 1) := by decide +kernel
theorem dX6_coolsWithin_37 : decode cX6_coolsWithin 37 = .ok (.ifCond .gt 5, 3) := by decide +kernel
theorem dX6_coolsWithin_40 : decode cX6_coolsWithin 40 = .ok (.iconst 0, 1) := by decide +kernel
theorem dX6_coolsWithin_41 : decode cX6_coolsWithin 41 = .ok (.ireturn, 1) := by decide +kernel
theorem dX6_coolsWithin_42 : decode cX6_coolsWithin 42 = .ok (.aload_n 2, 1) := by decide +kernel
theorem dX6_coolsWithin_43 : decode cX6_coolsWithin 43 = .ok (.getfield 202, 3) := by decide +kernel
theorem dX6_coolsWithin_46 : decode cX6_coolsWithin 46 = .ok (.ifCond .gt 6, 3) := by decide +kernel
theorem dX6_coolsWithin_49 : decode cX6_coolsWithin 49 = .ok (.ldc 205, 2) := by decide +kernel
theorem dX6_coolsWithin_51 : decode cX6_coolsWithin 51 = .ok (.ireturn, 1) := by decide +kernel
theorem dX6_coolsWithin_52 : decode cX6_coolsWithin 52 = .ok (.bipush 60, 2) := by decide +kernel
theorem dX6_coolsWithin_54 : decode cX6_coolsWithin 54 = .ok (.iload_n 3, 1) := by decide +kernel
theorem dX6_coolsWithin_55 : decode cX6_coolsWithin 55 = .ok (.imul, 1) := by decide +kernel
theorem dX6_coolsWithin_56 : decode cX6_coolsWithin 56 = .ok (.aload_n 2, 1) := by decide +kernel
theorem dX6_coolsWithin_57 : decode cX6_coolsWithin 57 = .ok (.getfield 202, 3) := by decide +kernel
theorem dX6_coolsWithin_60 : decode cX6_coolsWithin 60 = .ok (.iadd, 1) := by decide +kernel
theorem dX6_coolsWithin_61 : decode cX6_coolsWithin 61 = .ok (.iconst 1, 1) := by decide +kernel
theorem dX6_coolsWithin_62 : decode cX6_coolsWithin 62 = .ok (.isub, 1) := by decide +kernel
theorem dX6_coolsWithin_63 : decode cX6_coolsWithin 63 = .ok (.aload_n 2, 1) := by decide +kernel
theorem dX6_coolsWithin_64 : decode cX6_coolsWithin 64 = .ok (.getfield 202, 3) := by decide +kernel
theorem dX6_coolsWithin_67 : decode cX6_coolsWithin 67 = .ok (.idiv, 1) := by decide +kernel
theorem dX6_coolsWithin_68 : decode cX6_coolsWithin 68 = .ok (.ireturn, 1) := by decide +kernel
theorem dX6_heatOf_0 : decode cX6_heatOf 0 = .ok (.iconst 0, 1) := by decide +kernel
theorem dX6_heatOf_1 : decode cX6_heatOf 1 = .ok (.aload_n 0, 1) := by decide +kernel
theorem dX6_heatOf_2 : decode cX6_heatOf 2 = .ok (.getfield 37, 3) := by decide +kernel
theorem dX6_heatOf_5 : decode cX6_heatOf 5 = .ok (.getfield 193, 3) := by decide +kernel
theorem dX6_heatOf_8 : decode cX6_heatOf 8 = .ok (.iload_n 1, 1) := by decide +kernel
theorem dX6_heatOf_9 : decode cX6_heatOf 9 = .ok (.iaload, 1) := by decide +kernel
theorem dX6_heatOf_10 : decode cX6_heatOf 10 = .ok (.aload_n 0, 1) := by decide +kernel
theorem dX6_heatOf_11 : decode cX6_heatOf 11 = .ok (.getfield 33, 3) := by decide +kernel
theorem dX6_heatOf_14 : decode cX6_heatOf 14 = .ok (.getfield 166, 3) := by decide +kernel
theorem dX6_heatOf_17 : decode cX6_heatOf 17 = .ok (.iload_n 1, 1) := by decide +kernel
theorem dX6_heatOf_18 : decode cX6_heatOf 18 = .ok (.aaload, 1) := by decide +kernel
theorem dX6_heatOf_19 : decode cX6_heatOf 19 = .ok (.getfield 202, 3) := by decide +kernel
theorem dX6_heatOf_22 : decode cX6_heatOf 22 = .ok (.iload_n 2, 1) := by decide +kernel
theorem dX6_heatOf_23 : decode cX6_heatOf 23 = .ok (.imul, 1) := by decide +kernel
theorem dX6_heatOf_24 : decode cX6_heatOf 24 = .ok (.bipush 60, 2) := by decide +kernel
theorem dX6_heatOf_26 : decode cX6_heatOf 26 = .ok (.idiv, 1) := by decide +kernel
theorem dX6_heatOf_27 : decode cX6_heatOf 27 = .ok (.isub, 1) := by decide +kernel
theorem dX6_heatOf_28 : decode cX6_heatOf 28 = .ok (.invokestatic 184, 3) := by decide +kernel
theorem dX6_heatOf_31 : decode cX6_heatOf 31 = .ok (.ireturn, 1) := by decide +kernel
theorem dX6_paid_0 : decode cX6_paid 0 = .ok (.iconst 0, 1) := by decide +kernel
theorem dX6_paid_1 : decode cX6_paid 1 = .ok (.istore_n 1, 1) := by decide +kernel
theorem dX6_paid_2 : decode cX6_paid 2 = .ok (.iconst 0, 1) := by decide +kernel
theorem dX6_paid_3 : decode cX6_paid 3 = .ok (.istore_n 2, 1) := by decide +kernel
theorem dX6_paid_4 : decode cX6_paid 4 = .ok (.iload_n 2, 1) := by decide +kernel
theorem dX6_paid_5 : decode cX6_paid 5 = .ok (.aload_n 0, 1) := by decide +kernel
theorem dX6_paid_6 : decode cX6_paid 6 = .ok (.getfield 33, 3) := by decide +kernel
theorem dX6_paid_9 : decode cX6_paid 9 = .ok (.getfield 76, 3) := by decide +kernel
theorem dX6_paid_12 : decode cX6_paid 12 = .ok (.if_icmp .ge 34, 3) := by decide +kernel
theorem dX6_paid_15 : decode cX6_paid 15 = .ok (.iload_n 1, 1) := by decide +kernel
theorem dX6_paid_16 : decode cX6_paid 16 = .ok (.aload_n 0, 1) := by decide +kernel
theorem dX6_paid_17 : decode cX6_paid 17 = .ok (.getfield 21, 3) := by decide +kernel
theorem dX6_paid_20 : decode cX6_paid 20 = .ok (.iload_n 2, 1) := by decide +kernel
theorem dX6_paid_21 : decode cX6_paid 21 = .ok (.iaload, 1) := by decide +kernel
theorem dX6_paid_22 : decode cX6_paid 22 = .ok (.iconst (-1), 1) := by decide +kernel
theorem dX6_paid_23 : decode cX6_paid 23 = .ok (.if_icmp .eq 14, 3) := by decide +kernel
theorem dX6_paid_26 : decode cX6_paid 26 = .ok (.aload_n 0, 1) := by decide +kernel
theorem dX6_paid_27 : decode cX6_paid 27 = .ok (.getfield 33, 3) := by decide +kernel
theorem dX6_paid_30 : decode cX6_paid 30 = .ok (.iload_n 2, 1) := by decide +kernel
theorem dX6_paid_31 : decode cX6_paid 31 = .ok (.invokevirtual 206, 3) := by decide +kernel
theorem dX6_paid_34 : decode cX6_paid 34 = .ok (.goto 4, 3) := by decide +kernel
theorem dX6_paid_37 : decode cX6_paid 37 = .ok (.iconst 0, 1) := by decide +kernel
theorem dX6_paid_38 : decode cX6_paid 38 = .ok (.iadd, 1) := by decide +kernel
theorem dX6_paid_39 : decode cX6_paid 39 = .ok (.istore_n 1, 1) := by decide +kernel
theorem dX6_paid_40 : decode cX6_paid 40 = .ok (.iinc 2 1, 3) := by decide +kernel
theorem dX6_paid_43 : decode cX6_paid 43 = .ok (.goto (-39), 3) := by decide +kernel
theorem dX6_paid_46 : decode cX6_paid 46 = .ok (.iload_n 1, 1) := by decide +kernel
theorem dX6_paid_47 : decode cX6_paid 47 = .ok (.ireturn, 1) := by decide +kernel
theorem dX6_pouredBack_0 : decode cX6_pouredBack 0 = .ok (.iconst 0, 1) := by decide +kernel
theorem dX6_pouredBack_1 : decode cX6_pouredBack 1 = .ok (.istore_n 1, 1) := by decide +kernel
theorem dX6_pouredBack_2 : decode cX6_pouredBack 2 = .ok (.iconst 0, 1) := by decide +kernel
theorem dX6_pouredBack_3 : decode cX6_pouredBack 3 = .ok (.istore_n 2, 1) := by decide +kernel
theorem dX6_pouredBack_4 : decode cX6_pouredBack 4 = .ok (.iload_n 2, 1) := by decide +kernel
theorem dX6_pouredBack_5 : decode cX6_pouredBack 5 = .ok (.aload_n 0, 1) := by decide +kernel
theorem dX6_pouredBack_6 : decode cX6_pouredBack 6 = .ok (.getfield 33, 3) := by decide +kernel
theorem dX6_pouredBack_9 : decode cX6_pouredBack 9 = .ok (.getfield 76, 3) := by decide +kernel
theorem dX6_pouredBack_12 : decode cX6_pouredBack 12 = .ok (.if_icmp .ge 74, 3) := by decide +kernel
theorem dX6_pouredBack_15 : decode cX6_pouredBack 15 = .ok (.iconst 0, 1) := by decide +kernel
theorem dX6_pouredBack_16 : decode cX6_pouredBack 16 = .ok (.istore_n 3, 1) := by decide +kernel
theorem dX6_pouredBack_17 : decode cX6_pouredBack 17 = .ok (.iload_n 3, 1) := by decide +kernel
theorem dX6_pouredBack_18 : decode cX6_pouredBack 18 = .ok (.aload_n 0, 1) := by decide +kernel
theorem dX6_pouredBack_19 : decode cX6_pouredBack 19 = .ok (.getfield 33, 3) := by decide +kernel
theorem dX6_pouredBack_22 : decode cX6_pouredBack 22 = .ok (.getfield 209, 3) := by decide +kernel
theorem dX6_pouredBack_25 : decode cX6_pouredBack 25 = .ok (.if_icmp .ge 55, 3) := by decide +kernel
theorem dX6_pouredBack_28 : decode cX6_pouredBack 28 = .ok (.aload_n 0, 1) := by decide +kernel
theorem dX6_pouredBack_29 : decode cX6_pouredBack 29 = .ok (.getfield 27, 3) := by decide +kernel
theorem dX6_pouredBack_32 : decode cX6_pouredBack 32 = .ok (.iload_n 2, 1) := by decide +kernel
theorem dX6_pouredBack_33 : decode cX6_pouredBack 33 = .ok (.iaload, 1) := by decide +kernel
theorem dX6_pouredBack_34 : decode cX6_pouredBack 34 = .ok (.iload_n 3, 1) := by decide +kernel
theorem dX6_pouredBack_35 : decode cX6_pouredBack 35 = .ok (.ishr, 1) := by decide +kernel
theorem dX6_pouredBack_36 : decode cX6_pouredBack 36 = .ok (.iconst 1, 1) := by decide +kernel
theorem dX6_pouredBack_37 : decode cX6_pouredBack 37 = .ok (.iand, 1) := by decide +kernel
theorem dX6_pouredBack_38 : decode cX6_pouredBack 38 = .ok (.ifCond .eq 36, 3) := by decide +kernel
theorem dX6_pouredBack_41 : decode cX6_pouredBack 41 = .ok (.aload_n 0, 1) := by decide +kernel
theorem dX6_pouredBack_42 : decode cX6_pouredBack 42 = .ok (.getfield 33, 3) := by decide +kernel
theorem dX6_pouredBack_45 : decode cX6_pouredBack 45 = .ok (.getfield 166, 3) := by decide +kernel
theorem dX6_pouredBack_48 : decode cX6_pouredBack 48 = .ok (.iload_n 3, 1) := by decide +kernel
theorem dX6_pouredBack_49 : decode cX6_pouredBack 49 = .ok (.aaload, 1) := by decide +kernel
theorem dX6_pouredBack_50 : decode cX6_pouredBack 50 = .ok (.getfield 199, 3) := by decide +kernel
theorem dX6_pouredBack_53 : decode cX6_pouredBack 53 = .ok (.iconst 2, 1) := by decide +kernel
theorem dX6_pouredBack_54 : decode cX6_pouredBack 54 = .ok (.if_icmp .eq 20, 3) := by decide +kernel
theorem dX6_pouredBack_57 : decode cX6_pouredBack 57 = .ok (.iload_n 1, 1) := by decide +kernel
theorem dX6_pouredBack_58 : decode cX6_pouredBack 58 = .ok (.aload_n 0, 1) := by decide +kernel
theorem dX6_pouredBack_59 : decode cX6_pouredBack 59 = .ok (.getfield 33, 3) := by decide +kernel
theorem dX6_pouredBack_62 : decode cX6_pouredBack 62 = .ok (.getfield 166, 3) := by decide +kernel
theorem dX6_pouredBack_65 : decode cX6_pouredBack 65 = .ok (.iload_n 3, 1) := by decide +kernel
theorem dX6_pouredBack_66 : decode cX6_pouredBack 66 = .ok (.aaload, 1) := by decide +kernel
theorem dX6_pouredBack_67 : decode cX6_pouredBack 67 = .ok (.getfield 212, 3) := by decide +kernel
theorem dX6_pouredBack_70 : decode cX6_pouredBack 70 = .ok (.iconst 2, 1) := by decide +kernel
theorem dX6_pouredBack_71 : decode cX6_pouredBack 71 = .ok (.idiv, 1) := by decide +kernel
theorem dX6_pouredBack_72 : decode cX6_pouredBack 72 = .ok (.iadd, 1) := by decide +kernel
theorem dX6_pouredBack_73 : decode cX6_pouredBack 73 = .ok (.istore_n 1, 1) := by decide +kernel
theorem dX6_pouredBack_74 : decode cX6_pouredBack 74 = .ok (.iinc 3 1, 3) := by decide +kernel
theorem dX6_pouredBack_77 : decode cX6_pouredBack 77 = .ok (.goto (-60), 3) := by decide +kernel
theorem dX6_pouredBack_80 : decode cX6_pouredBack 80 = .ok (.iinc 2 1, 3) := by decide +kernel
theorem dX6_pouredBack_83 : decode cX6_pouredBack 83 = .ok (.goto (-79), 3) := by decide +kernel
theorem dX6_pouredBack_86 : decode cX6_pouredBack 86 = .ok (.iload_n 1, 1) := by decide +kernel
theorem dX6_pouredBack_87 : decode cX6_pouredBack 87 = .ok (.ireturn, 1) := by decide +kernel
theorem dX6_drunkInAll_0 : decode cX6_drunkInAll 0 = .ok (.iconst 0, 1) := by decide +kernel
theorem dX6_drunkInAll_1 : decode cX6_drunkInAll 1 = .ok (.istore_n 1, 1) := by decide +kernel
theorem dX6_drunkInAll_2 : decode cX6_drunkInAll 2 = .ok (.iconst 0, 1) := by decide +kernel
theorem dX6_drunkInAll_3 : decode cX6_drunkInAll 3 = .ok (.istore_n 2, 1) := by decide +kernel
theorem dX6_drunkInAll_4 : decode cX6_drunkInAll 4 = .ok (.iload_n 2, 1) := by decide +kernel
theorem dX6_drunkInAll_5 : decode cX6_drunkInAll 5 = .ok (.aload_n 0, 1) := by decide +kernel
theorem dX6_drunkInAll_6 : decode cX6_drunkInAll 6 = .ok (.getfield 33, 3) := by decide +kernel
theorem dX6_drunkInAll_9 : decode cX6_drunkInAll 9 = .ok (.getfield 76, 3) := by decide +kernel
theorem dX6_drunkInAll_12 : decode cX6_drunkInAll 12 = .ok (.if_icmp .ge 21, 3) := by decide +kernel
theorem dX6_drunkInAll_15 : decode cX6_drunkInAll 15 = .ok (.iload_n 1, 1) := by decide +kernel
theorem dX6_drunkInAll_16 : decode cX6_drunkInAll 16 = .ok (.aload_n 0, 1) := by decide +kernel
theorem dX6_drunkInAll_17 : decode cX6_drunkInAll 17 = .ok (.getfield 24, 3) := by decide +kernel
theorem dX6_drunkInAll_20 : decode cX6_drunkInAll 20 = .ok (.iload_n 2, 1) := by decide +kernel
theorem dX6_drunkInAll_21 : decode cX6_drunkInAll 21 = .ok (.iaload, 1) := by decide +kernel
theorem dX6_drunkInAll_22 : decode cX6_drunkInAll 22 = .ok (.invokestatic 215, 3) := by decide +kernel
theorem dX6_drunkInAll_25 : decode cX6_drunkInAll 25 = .ok (.iadd, 1) := by decide +kernel
theorem dX6_drunkInAll_26 : decode cX6_drunkInAll 26 = .ok (.istore_n 1, 1) := by decide +kernel
theorem dX6_drunkInAll_27 : decode cX6_drunkInAll 27 = .ok (.iinc 2 1, 3) := by decide +kernel
theorem dX6_drunkInAll_30 : decode cX6_drunkInAll 30 = .ok (.goto (-26), 3) := by decide +kernel
theorem dX6_drunkInAll_33 : decode cX6_drunkInAll 33 = .ok (.iload_n 1, 1) := by decide +kernel
theorem dX6_drunkInAll_34 : decode cX6_drunkInAll 34 = .ok (.ireturn, 1) := by decide +kernel
theorem dX6_leftInAll_0 : decode cX6_leftInAll 0 = .ok (.iconst 0, 1) := by decide +kernel
theorem dX6_leftInAll_1 : decode cX6_leftInAll 1 = .ok (.istore_n 1, 1) := by decide +kernel
theorem dX6_leftInAll_2 : decode cX6_leftInAll 2 = .ok (.iconst 0, 1) := by decide +kernel
theorem dX6_leftInAll_3 : decode cX6_leftInAll 3 = .ok (.istore_n 2, 1) := by decide +kernel
theorem dX6_leftInAll_4 : decode cX6_leftInAll 4 = .ok (.iload_n 2, 1) := by decide +kernel
theorem dX6_leftInAll_5 : decode cX6_leftInAll 5 = .ok (.aload_n 0, 1) := by decide +kernel
theorem dX6_leftInAll_6 : decode cX6_leftInAll 6 = .ok (.getfield 33, 3) := by decide +kernel
theorem dX6_leftInAll_9 : decode cX6_leftInAll 9 = .ok (.getfield 76, 3) := by decide +kernel
theorem dX6_leftInAll_12 : decode cX6_leftInAll 12 = .ok (.if_icmp .ge 21, 3) := by decide +kernel
theorem dX6_leftInAll_15 : decode cX6_leftInAll 15 = .ok (.iload_n 1, 1) := by decide +kernel
theorem dX6_leftInAll_16 : decode cX6_leftInAll 16 = .ok (.aload_n 0, 1) := by decide +kernel
theorem dX6_leftInAll_17 : decode cX6_leftInAll 17 = .ok (.getfield 27, 3) := by decide +kernel
theorem dX6_leftInAll_20 : decode cX6_leftInAll 20 = .ok (.iload_n 2, 1) := by decide +kernel
theorem dX6_leftInAll_21 : decode cX6_leftInAll 21 = .ok (.iaload, 1) := by decide +kernel
theorem dX6_leftInAll_22 : decode cX6_leftInAll 22 = .ok (.invokestatic 215, 3) := by decide +kernel
theorem dX6_leftInAll_25 : decode cX6_leftInAll 25 = .ok (.iadd, 1) := by decide +kernel
theorem dX6_leftInAll_26 : decode cX6_leftInAll 26 = .ok (.istore_n 1, 1) := by decide +kernel
theorem dX6_leftInAll_27 : decode cX6_leftInAll 27 = .ok (.iinc 2 1, 3) := by decide +kernel
theorem dX6_leftInAll_30 : decode cX6_leftInAll 30 = .ok (.goto (-26), 3) := by decide +kernel
theorem dX6_leftInAll_33 : decode cX6_leftInAll 33 = .ok (.iload_n 1, 1) := by decide +kernel
theorem dX6_leftInAll_34 : decode cX6_leftInAll 34 = .ok (.ireturn, 1) := by decide +kernel
theorem dX6_servedBy_0 : decode cX6_servedBy 0 = .ok (.iconst 0, 1) := by decide +kernel
theorem dX6_servedBy_1 : decode cX6_servedBy 1 = .ok (.istore_n 2, 1) := by decide +kernel
theorem dX6_servedBy_2 : decode cX6_servedBy 2 = .ok (.iconst 0, 1) := by decide +kernel
theorem dX6_servedBy_3 : decode cX6_servedBy 3 = .ok (.istore_n 3, 1) := by decide +kernel
theorem dX6_servedBy_4 : decode cX6_servedBy 4 = .ok (.iload_n 3, 1) := by decide +kernel
theorem dX6_servedBy_5 : decode cX6_servedBy 5 = .ok (.aload_n 0, 1) := by decide +kernel
theorem dX6_servedBy_6 : decode cX6_servedBy 6 = .ok (.getfield 33, 3) := by decide +kernel
theorem dX6_servedBy_9 : decode cX6_servedBy 9 = .ok (.getfield 76, 3) := by decide +kernel
theorem dX6_servedBy_12 : decode cX6_servedBy 12 = .ok (.if_icmp .ge 32, 3) := by decide +kernel
theorem dX6_servedBy_15 : decode cX6_servedBy 15 = .ok (.aload_n 0, 1) := by decide +kernel
theorem dX6_servedBy_16 : decode cX6_servedBy 16 = .ok (.getfield 21, 3) := by decide +kernel
theorem dX6_servedBy_19 : decode cX6_servedBy 19 = .ok (.iload_n 3, 1) := by decide +kernel
theorem dX6_servedBy_20 : decode cX6_servedBy 20 = .ok (.iaload, 1) := by decide +kernel
theorem dX6_servedBy_21 : decode cX6_servedBy 21 = .ok (.iconst (-1), 1) := by decide +kernel
theorem dX6_servedBy_22 : decode cX6_servedBy 22 = .ok (.if_icmp .eq 16, 3) := by decide +kernel
theorem dX6_servedBy_25 : decode cX6_servedBy 25 = .ok (.aload_n 0, 1) := by decide +kernel
theorem dX6_servedBy_26 : decode cX6_servedBy 26 = .ok (.getfield 21, 3) := by decide +kernel
theorem dX6_servedBy_29 : decode cX6_servedBy 29 = .ok (.iload_n 3, 1) := by decide +kernel
theorem dX6_servedBy_30 : decode cX6_servedBy 30 = .ok (.iaload, 1) := by decide +kernel
theorem dX6_servedBy_31 : decode cX6_servedBy 31 = .ok (.iload_n 1, 1) := by decide +kernel
theorem dX6_servedBy_32 : decode cX6_servedBy 32 = .ok (.if_icmp .gt 6, 3) := by decide +kernel
theorem dX6_servedBy_35 : decode cX6_servedBy 35 = .ok (.iinc 2 1, 3) := by decide +kernel
theorem dX6_servedBy_38 : decode cX6_servedBy 38 = .ok (.iinc 3 1, 3) := by decide +kernel
theorem dX6_servedBy_41 : decode cX6_servedBy 41 = .ok (.goto (-37), 3) := by decide +kernel
theorem dX6_servedBy_44 : decode cX6_servedBy 44 = .ok (.iload_n 2, 1) := by decide +kernel
theorem dX6_servedBy_45 : decode cX6_servedBy 45 = .ok (.ireturn, 1) := by decide +kernel
theorem dX7_init_0 : decode cX7_init 0 = .ok (.aload_n 0, 1) := by decide +kernel
theorem dX7_init_1 : decode cX7_init 1 = .ok (.invokespecial 3, 3) := by decide +kernel
theorem dX7_init_4 : decode cX7_init 4 = .ok (.aload_n 0, 1) := by decide +kernel
theorem dX7_init_5 : decode cX7_init 5 = .ok (.iconst 5, 1) := by decide +kernel
theorem dX7_init_6 : decode cX7_init 6 = .ok (.newarray .int, 2) := by decide +kernel
theorem dX7_init_8 : decode cX7_init 8 = .ok (.putfield 9, 3) := by decide +kernel
theorem dX7_init_11 : decode cX7_init 11 = .ok (.aload_n 0, 1) := by decide +kernel
theorem dX7_init_12 : decode cX7_init 12 = .ok (.bipush 120, 2) := by decide +kernel
theorem dX7_init_14 : decode cX7_init 14 = .ok (.newarray .int, 2) := by decide +kernel
theorem dX7_init_16 : decode cX7_init 16 = .ok (.putfield 15, 3) := by decide +kernel
theorem dX7_init_19 : decode cX7_init 19 = .ok (.aload_n 0, 1) := by decide +kernel
theorem dX7_init_20 : decode cX7_init 20 = .ok (.bipush 20, 2) := by decide +kernel
theorem dX7_init_22 : decode cX7_init 22 = .ok (.newarray .int, 2) := by decide +kernel
theorem dX7_init_24 : decode cX7_init 24 = .ok (.putfield 18, 3) := by decide +kernel
theorem dX7_init_27 : decode cX7_init 27 = .ok (.aload_n 0, 1) := by decide +kernel
theorem dX7_init_28 : decode cX7_init 28 = .ok (.bipush 12, 2) := by decide +kernel
theorem dX7_init_30 : decode cX7_init 30 = .ok (.newarray .int, 2) := by decide +kernel
theorem dX7_init_32 : decode cX7_init 32 = .ok (.putfield 21, 3) := by decide +kernel
theorem dX7_init_35 : decode cX7_init 35 = .ok (.return_, 1) := by decide +kernel
theorem dX7_startWith_0 : decode cX7_startWith 0 = .ok (.aload_n 0, 1) := by decide +kernel
theorem dX7_startWith_1 : decode cX7_startWith 1 = .ok (.iconst 0, 1) := by decide +kernel
theorem dX7_startWith_2 : decode cX7_startWith 2 = .ok (.putfield 24, 3) := by decide +kernel
theorem dX7_startWith_5 : decode cX7_startWith 5 = .ok (.aload_n 0, 1) := by decide +kernel
theorem dX7_startWith_6 : decode cX7_startWith 6 = .ok (.aload_n 1, 1) := by decide +kernel
theorem dX7_startWith_7 : decode cX7_startWith 7 = .ok (.getfield 28, 3) := by decide +kernel
theorem dX7_startWith_10 : decode cX7_startWith 10 = .ok (.putfield 33, 3) := by decide +kernel
theorem dX7_startWith_13 : decode cX7_startWith 13 = .ok (.aload_n 0, 1) := by decide +kernel
theorem dX7_startWith_14 : decode cX7_startWith 14 = .ok (.iconst 0, 1) := by decide +kernel
theorem dX7_startWith_15 : decode cX7_startWith 15 = .ok (.putfield 34, 3) := by decide +kernel
theorem dX7_startWith_18 : decode cX7_startWith 18 = .ok (.aload_n 0, 1) := by decide +kernel
theorem dX7_startWith_19 : decode cX7_startWith 19 = .ok (.aload_n 1, 1) := by decide +kernel
theorem dX7_startWith_20 : decode cX7_startWith 20 = .ok (.getfield 37, 3) := by decide +kernel
theorem dX7_startWith_23 : decode cX7_startWith 23 = .ok (.putfield 40, 3) := by decide +kernel
theorem dX7_startWith_26 : decode cX7_startWith 26 = .ok (.iconst 0, 1) := by decide +kernel
theorem dX7_startWith_27 : decode cX7_startWith 27 = .ok (.istore_n 2, 1) := by decide +kernel
theorem dX7_startWith_28 : decode cX7_startWith 28 = .ok (.iload_n 2, 1) := by decide +kernel
theorem dX7_startWith_29 : decode cX7_startWith 29 = .ok (.aload_n 1, 1) := by decide +kernel
theorem dX7_startWith_30 : decode cX7_startWith 30 = .ok (.getfield 41, 3) := by decide +kernel
theorem dX7_startWith_33 : decode cX7_startWith 33 = .ok (.if_icmp .ge 24, 3) := by decide +kernel
theorem dX7_startWith_36 : decode cX7_startWith 36 = .ok (.aload_n 0, 1) := by decide +kernel
theorem dX7_startWith_37 : decode cX7_startWith 37 = .ok (.getfield 9, 3) := by decide +kernel
theorem dX7_startWith_40 : decode cX7_startWith 40 = .ok (.iload_n 2, 1) := by decide +kernel
theorem dX7_startWith_41 : decode cX7_startWith 41 = .ok (.aload_n 1, 1) := by decide +kernel
theorem dX7_startWith_42 : decode cX7_startWith 42 = .ok (.getfield 44, 3) := by decide +kernel
theorem dX7_startWith_45 : decode cX7_startWith 45 = .ok (.iload_n 2, 1) := by decide +kernel
theorem dX7_startWith_46 : decode cX7_startWith 46 = .ok (.aaload, 1) := by decide +kernel
theorem dX7_startWith_47 : decode cX7_startWith 47 = .ok (.getfield 48, 3) := by decide +kernel
theorem dX7_startWith_50 : decode cX7_startWith 50 = .ok (.iastore, 1) := by decide +kernel
theorem dX7_startWith_51 : decode cX7_startWith 51 = .ok (.iinc 2 1, 3) := by decide +kernel
theorem dX7_startWith_54 : decode cX7_startWith 54 = .ok (.goto (-26), 3) := by decide +kernel
theorem dX7_startWith_57 : decode cX7_startWith 57 = .ok (.return_, 1) := by decide +kernel
theorem dX7_forget_0 : decode cX7_forget 0 = .ok (.aload_n 0, 1) := by decide +kernel
theorem dX7_forget_1 : decode cX7_forget 1 = .ok (.iconst 0, 1) := by decide +kernel
theorem dX7_forget_2 : decode cX7_forget 2 = .ok (.putfield 52, 3) := by decide +kernel
theorem dX7_forget_5 : decode cX7_forget 5 = .ok (.aload_n 0, 1) := by decide +kernel
theorem dX7_forget_6 : decode cX7_forget 6 = .ok (.iconst 0, 1) := by decide +kernel
theorem dX7_forget_7 : decode cX7_forget 7 = .ok (.putfield 55, 3) := by decide +kernel
theorem dX7_forget_10 : decode cX7_forget 10 = .ok (.aload_n 0, 1) := by decide +kernel
theorem dX7_forget_11 : decode cX7_forget 11 = .ok (.iconst 0, 1) := by decide +kernel
theorem dX7_forget_12 : decode cX7_forget 12 = .ok (.putfield 58, 3) := by decide +kernel
theorem dX7_forget_15 : decode cX7_forget 15 = .ok (.return_, 1) := by decide +kernel
theorem dX7_takeLines_0 : decode cX7_takeLines 0 = .ok (.aload_n 1, 1) := by decide +kernel
theorem dX7_takeLines_1 : decode cX7_takeLines 1 = .ok (.iconst 0, 1) := by decide +kernel
theorem dX7_takeLines_2 : decode cX7_takeLines 2 = .ok (.aload_n 0, 1) := by decide +kernel
theorem dX7_takeLines_3 : decode cX7_takeLines 3 = .ok (.getfield 15, 3) := by decide +kernel
theorem dX7_takeLines_6 : decode cX7_takeLines 6 = .ok (.iconst 0, 1) := by decide +kernel
theorem dX7_takeLines_7 : decode cX7_takeLines 7 = .ok (.iload_n 2, 1) := by decide +kernel
theorem dX7_takeLines_8 : decode cX7_takeLines 8 = .ok (.iconst 3, 1) := by decide +kernel
theorem dX7_takeLines_9 : decode cX7_takeLines 9 = .ok (.imul, 1) := by decide +kernel
theorem dX7_takeLines_10 : decode cX7_takeLines 10 = .ok (.invokestatic 61, 3) := by decide +kernel
theorem dX7_takeLines_13 : decode cX7_takeLines 13 = .ok (.aload_n 0, 1) := by decide +kernel
theorem dX7_takeLines_14 : decode cX7_takeLines 14 = .ok (.iload_n 2, 1) := by decide +kernel
theorem dX7_takeLines_15 : decode cX7_takeLines 15 = .ok (.putfield 52, 3) := by decide +kernel
theorem dX7_takeLines_18 : decode cX7_takeLines 18 = .ok (.return_, 1) := by decide +kernel
theorem dX7_copyHand_0 : decode cX7_copyHand 0 = .ok (.aload_n 0, 1) := by decide +kernel
theorem dX7_copyHand_1 : decode cX7_copyHand 1 = .ok (.aload_n 1, 1) := by decide +kernel
theorem dX7_copyHand_2 : decode cX7_copyHand 2 = .ok (.getfield 24, 3) := by decide +kernel
theorem dX7_copyHand_5 : decode cX7_copyHand 5 = .ok (.putfield 24, 3) := by decide +kernel
theorem dX7_copyHand_8 : decode cX7_copyHand 8 = .ok (.aload_n 0, 1) := by decide +kernel
theorem dX7_copyHand_9 : decode cX7_copyHand 9 = .ok (.aload_n 1, 1) := by decide +kernel
theorem dX7_copyHand_10 : decode cX7_copyHand 10 = .ok (.getfield 33, 3) := by decide +kernel
theorem dX7_copyHand_13 : decode cX7_copyHand 13 = .ok (.putfield 33, 3) := by decide +kernel
theorem dX7_copyHand_16 : decode cX7_copyHand 16 = .ok (.aload_n 0, 1) := by decide +kernel
theorem dX7_copyHand_17 : decode cX7_copyHand 17 = .ok (.aload_n 1, 1) := by decide +kernel
theorem dX7_copyHand_18 : decode cX7_copyHand 18 = .ok (.getfield 34, 3) := by decide +kernel
theorem dX7_copyHand_21 : decode cX7_copyHand 21 = .ok (.putfield 34, 3) := by decide +kernel
theorem dX7_copyHand_24 : decode cX7_copyHand 24 = .ok (.aload_n 0, 1) := by decide +kernel
theorem dX7_copyHand_25 : decode cX7_copyHand 25 = .ok (.aload_n 1, 1) := by decide +kernel
theorem dX7_copyHand_26 : decode cX7_copyHand 26 = .ok (.getfield 40, 3) := by decide +kernel
theorem dX7_copyHand_29 : decode cX7_copyHand 29 = .ok (.putfield 40, 3) := by decide +kernel
theorem dX7_copyHand_32 : decode cX7_copyHand 32 = .ok (.aload_n 1, 1) := by decide +kernel
theorem dX7_copyHand_33 : decode cX7_copyHand 33 = .ok (.getfield 9, 3) := by decide +kernel
theorem dX7_copyHand_36 : decode cX7_copyHand 36 = .ok (.iconst 0, 1) := by decide +kernel
theorem dX7_copyHand_37 : decode cX7_copyHand 37 = .ok (.aload_n 0, 1) := by decide +kernel
theorem dX7_copyHand_38 : decode cX7_copyHand 38 = .ok (.getfield 9, 3) := by decide +kernel
theorem dX7_copyHand_41 : decode cX7_copyHand 41 = .ok (.iconst 0, 1) := by decide +kernel
theorem dX7_copyHand_42 : decode cX7_copyHand 42 = .ok (.aload_n 0, 1) := by decide +kernel
theorem dX7_copyHand_43 : decode cX7_copyHand 43 = .ok (.getfield 9, 3) := by decide +kernel
theorem dX7_copyHand_46 : decode cX7_copyHand 46 = .ok (.arraylength, 1) := by decide +kernel
theorem dX7_copyHand_47 : decode cX7_copyHand 47 = .ok (.invokestatic 61, 3) := by decide +kernel
theorem dX7_copyHand_50 : decode cX7_copyHand 50 = .ok (.return_, 1) := by decide +kernel
theorem dX7_copyAll_0 : decode cX7_copyAll 0 = .ok (.aload_n 0, 1) := by decide +kernel
theorem dX7_copyAll_1 : decode cX7_copyAll 1 = .ok (.aload_n 1, 1) := by decide +kernel
theorem dX7_copyAll_2 : decode cX7_copyAll 2 = .ok (.invokevirtual 67, 3) := by decide +kernel
theorem dX7_copyAll_5 : decode cX7_copyAll 5 = .ok (.aload_n 0, 1) := by decide +kernel
theorem dX7_copyAll_6 : decode cX7_copyAll 6 = .ok (.aload_n 1, 1) := by decide +kernel
theorem dX7_copyAll_7 : decode cX7_copyAll 7 = .ok (.getfield 15, 3) := by decide +kernel
theorem dX7_copyAll_10 : decode cX7_copyAll 10 = .ok (.aload_n 1, 1) := by decide +kernel
theorem dX7_copyAll_11 : decode cX7_copyAll 11 = .ok (.getfield 52, 3) := by decide +kernel
theorem dX7_copyAll_14 : decode cX7_copyAll 14 = .ok (.invokevirtual 71, 3) := by decide +kernel
theorem dX7_copyAll_17 : decode cX7_copyAll 17 = .ok (.aload_n 1, 1) := by decide +kernel
theorem dX7_copyAll_18 : decode cX7_copyAll 18 = .ok (.getfield 18, 3) := by decide +kernel
theorem dX7_copyAll_21 : decode cX7_copyAll 21 = .ok (.iconst 0, 1) := by decide +kernel
theorem dX7_copyAll_22 : decode cX7_copyAll 22 = .ok (.aload_n 0, 1) := by decide +kernel
theorem dX7_copyAll_23 : decode cX7_copyAll 23 = .ok (.getfield 18, 3) := by decide +kernel
theorem dX7_copyAll_26 : decode cX7_copyAll 26 = .ok (.iconst 0, 1) := by decide +kernel
theorem dX7_copyAll_27 : decode cX7_copyAll 27 = .ok (.aload_n 0, 1) := by decide +kernel
theorem dX7_copyAll_28 : decode cX7_copyAll 28 = .ok (.getfield 18, 3) := by decide +kernel
theorem dX7_copyAll_31 : decode cX7_copyAll 31 = .ok (.arraylength, 1) := by decide +kernel
theorem dX7_copyAll_32 : decode cX7_copyAll 32 = .ok (.invokestatic 61, 3) := by decide +kernel
theorem dX7_copyAll_35 : decode cX7_copyAll 35 = .ok (.aload_n 0, 1) := by decide +kernel
theorem dX7_copyAll_36 : decode cX7_copyAll 36 = .ok (.aload_n 1, 1) := by decide +kernel
theorem dX7_copyAll_37 : decode cX7_copyAll 37 = .ok (.getfield 55, 3) := by decide +kernel
theorem dX7_copyAll_40 : decode cX7_copyAll 40 = .ok (.putfield 55, 3) := by decide +kernel
theorem dX7_copyAll_43 : decode cX7_copyAll 43 = .ok (.aload_n 1, 1) := by decide +kernel
theorem dX7_copyAll_44 : decode cX7_copyAll 44 = .ok (.getfield 21, 3) := by decide +kernel
theorem dX7_copyAll_47 : decode cX7_copyAll 47 = .ok (.iconst 0, 1) := by decide +kernel
theorem dX7_copyAll_48 : decode cX7_copyAll 48 = .ok (.aload_n 0, 1) := by decide +kernel
theorem dX7_copyAll_49 : decode cX7_copyAll 49 = .ok (.getfield 21, 3) := by decide +kernel
theorem dX7_copyAll_52 : decode cX7_copyAll 52 = .ok (.iconst 0, 1) := by decide +kernel
theorem dX7_copyAll_53 : decode cX7_copyAll 53 = .ok (.aload_n 0, 1) := by decide +kernel
theorem dX7_copyAll_54 : decode cX7_copyAll 54 = .ok (.getfield 21, 3) := by decide +kernel
theorem dX7_copyAll_57 : decode cX7_copyAll 57 = .ok (.arraylength, 1) := by decide +kernel
theorem dX7_copyAll_58 : decode cX7_copyAll 58 = .ok (.invokestatic 61, 3) := by decide +kernel
theorem dX7_copyAll_61 : decode cX7_copyAll 61 = .ok (.aload_n 0, 1) := by decide +kernel
theorem dX7_copyAll_62 : decode cX7_copyAll 62 = .ok (.aload_n 1, 1) := by decide +kernel
theorem dX7_copyAll_63 : decode cX7_copyAll 63 = .ok (.getfield 58, 3) := by decide +kernel
theorem dX7_copyAll_66 : decode cX7_copyAll 66 = .ok (.putfield 58, 3) := by decide +kernel
theorem dX7_copyAll_69 : decode cX7_copyAll 69 = .ok (.return_, 1) := by decide +kernel
theorem dX7_valueOf_0 : decode cX7_valueOf 0 = .ok (.iload_n 2, 1) := by decide +kernel
theorem dX7_valueOf_1 : decode cX7_valueOf 1 = .ok (.tableswitch 98 0 4 #[35, 40, 45, 50, 75], 35) := by decide +kernel
theorem dX7_valueOf_36 : decode cX7_valueOf 36 = .ok (.aload_n 0, 1) := by decide +kernel
theorem dX7_valueOf_37 : decode cX7_valueOf 37 = .ok (.getfield 33, 3) := by decide +kernel
theorem dX7_valueOf_40 : decode cX7_valueOf 40 = .ok (.ireturn, 1) := by decide +kernel
theorem dX7_valueOf_41 : decode cX7_valueOf 41 = .ok (.aload_n 0, 1) := by decide +kernel
theorem dX7_valueOf_42 : decode cX7_valueOf 42 = .ok (.getfield 34, 3) := by decide +kernel
theorem dX7_valueOf_45 : decode cX7_valueOf 45 = .ok (.ireturn, 1) := by decide +kernel
theorem dX7_valueOf_46 : decode cX7_valueOf 46 = .ok (.aload_n 0, 1) := by decide +kernel
theorem dX7_valueOf_47 : decode cX7_valueOf 47 = .ok (.getfield 40, 3) := by decide +kernel
theorem dX7_valueOf_50 : decode cX7_valueOf 50 = .ok (.ireturn, 1) := by decide +kernel
theorem dX7_valueOf_51 : decode cX7_valueOf 51 = .ok (.iload_n 3, 1) := by decide +kernel
theorem dX7_valueOf_52 : decode cX7_valueOf 52 = .ok (.ifCond .lt 22, 3) := by decide +kernel
theorem dX7_valueOf_55 : decode cX7_valueOf 55 = .ok (.iload_n 3, 1) := by decide +kernel
theorem dX7_valueOf_56 : decode cX7_valueOf 56 = .ok (.aload_n 1, 1) := by decide +kernel
theorem dX7_valueOf_57 : decode cX7_valueOf 57 = .ok (.getfield 75, 3) := by decide +kernel
theorem dX7_valueOf_60 : decode cX7_valueOf 60 = .ok (.if_icmp .ge 14, 3) := by decide +kernel
theorem dX7_valueOf_63 : decode cX7_valueOf 63 = .ok (.aload_n 0, 1) := by decide +kernel
theorem dX7_valueOf_64 : decode cX7_valueOf 64 = .ok (.getfield 24, 3) := by decide +kernel
theorem dX7_valueOf_67 : decode cX7_valueOf 67 = .ok (.iload_n 3, 1) := by decide +kernel
theorem dX7_valueOf_68 : decode cX7_valueOf 68 = .ok (.ishr, 1) := by decide +kernel
theorem dX7_valueOf_69 : decode cX7_valueOf 69 = .ok (.iconst 1, 1) := by decide +kernel
theorem dX7_valueOf_70 : decode cX7_valueOf 70 = .ok (.iand, 1) := by decide +kernel
theorem dX7_valueOf_71 : decode cX7_valueOf 71 = .ok (.goto 4, 3) := by decide +kernel
theorem dX7_valueOf_74 : decode cX7_valueOf 74 = .ok (.iconst (-1), 1) := by decide +kernel
theorem dX7_valueOf_75 : decode cX7_valueOf 75 = .ok (.ireturn, 1) := by decide +kernel
theorem dX7_valueOf_76 : decode cX7_valueOf 76 = .ok (.iload_n 3, 1) := by decide +kernel
theorem dX7_valueOf_77 : decode cX7_valueOf 77 = .ok (.ifCond .lt 20, 3) := by decide +kernel
theorem dX7_valueOf_80 : decode cX7_valueOf 80 = .ok (.iload_n 3, 1) := by decide +kernel
theorem dX7_valueOf_81 : decode cX7_valueOf 81 = .ok (.aload_n 1, 1) := by decide +kernel
theorem dX7_valueOf_82 : decode cX7_valueOf 82 = .ok (.getfield 41, 3) := by decide +kernel
theorem dX7_valueOf_85 : decode cX7_valueOf 85 = .ok (.if_icmp .ge 12, 3) := by decide +kernel
theorem dX7_valueOf_88 : decode cX7_valueOf 88 = .ok (.aload_n 0, 1) := by decide +kernel
theorem dX7_valueOf_89 : decode cX7_valueOf 89 = .ok (.getfield 9, 3) := by decide +kernel
theorem dX7_valueOf_92 : decode cX7_valueOf 92 = .ok (.iload_n 3, 1) := by decide +kernel
theorem dX7_valueOf_93 : decode cX7_valueOf 93 = .ok (.iaload, 1) := by decide +kernel
theorem dX7_valueOf_94 : decode cX7_valueOf 94 = .ok (.goto 4, 3) := by decide +kernel
theorem dX7_valueOf_97 : decode cX7_valueOf 97 = .ok (.iconst (-1), 1) := by decide +kernel
theorem dX7_valueOf_98 : decode cX7_valueOf 98 = .ok (.ireturn, 1) := by decide +kernel
theorem dX7_valueOf_99 : decode cX7_valueOf 99 = .ok (.iconst (-1), 1) := by decide +kernel
theorem dX7_valueOf_100 : decode cX7_valueOf 100 = .ok (.ireturn, 1) := by decide +kernel
theorem dX7_change_0 : decode cX7_change 0 = .ok (.aload_n 0, 1) := by decide +kernel
theorem dX7_change_1 : decode cX7_change 1 = .ok (.aload_n 1, 1) := by decide +kernel
theorem dX7_change_2 : decode cX7_change 2 = .ok (.iload_n 2, 1) := by decide +kernel
theorem dX7_change_3 : decode cX7_change 3 = .ok (.iload_n 3, 1) := by decide +kernel
theorem dX7_change_4 : decode cX7_change 4 = .ok (.invokevirtual 78, 3) := by decide +kernel
theorem dX7_change_7 : decode cX7_change 7 = .ok (.istore 5, 2) := by decide +kernel
theorem dX7_change_9 : decode cX7_change 9 = .ok (.iload 5, 2) := by decide +kernel
theorem dX7_change_11 : decode cX7_change 11 = .ok (.iconst (-1), 1) := by decide +kernel
theorem dX7_change_12 : decode cX7_change 12 = .ok (.if_icmp .eq 20, 3) := by decide +kernel
theorem dX7_change_15 : decode cX7_change 15 = .ok (.iload 5, 2) := by decide +kernel
theorem dX7_change_17 : decode cX7_change 17 = .ok (.iload 4, 2) := by decide +kernel
theorem dX7_change_19 : decode cX7_change 19 = .ok (.if_icmp .eq 13, 3) := by decide +kernel
theorem dX7_change_22 : decode cX7_change 22 = .ok (.aload_n 1, 1) := by decide +kernel
theorem dX7_change_23 : decode cX7_change 23 = .ok (.iload_n 2, 1) := by decide +kernel
theorem dX7_change_24 : decode cX7_change 24 = .ok (.iload 4, 2) := by decide +kernel
theorem dX7_change_26 : decode cX7_change 26 = .ok (.invokestatic 82, 3) := by decide +kernel
theorem dX7_change_29 : decode cX7_change 29 = .ok (.ifCond .ne 5, 3) := by decide +kernel
theorem dX7_change_32 : decode cX7_change 32 = .ok (.iconst 0, 1) := by decide +kernel
theorem dX7_change_33 : decode cX7_change 33 = .ok (.ireturn, 1) := by decide +kernel
theorem dX7_change_34 : decode cX7_change 34 = .ok (.iload_n 2, 1) := by decide +kernel
theorem dX7_change_35 : decode cX7_change 35 = .ok (.tableswitch 71 0 3 #[29, 38, 47, 56], 29) := by decide +kernel
theorem dX7_change_64 : decode cX7_change 64 = .ok (.aload_n 0, 1) := by decide +kernel
theorem dX7_change_65 : decode cX7_change 65 = .ok (.iload 4, 2) := by decide +kernel
theorem dX7_change_67 : decode cX7_change 67 = .ok (.putfield 33, 3) := by decide +kernel
theorem dX7_change_70 : decode cX7_change 70 = .ok (.goto 44, 3) := by decide +kernel
theorem dX7_change_73 : decode cX7_change 73 = .ok (.aload_n 0, 1) := by decide +kernel
theorem dX7_change_74 : decode cX7_change 74 = .ok (.iload 4, 2) := by decide +kernel
theorem dX7_change_76 : decode cX7_change 76 = .ok (.putfield 34, 3) := by decide +kernel
theorem dX7_change_79 : decode cX7_change 79 = .ok (.goto 35, 3) := by decide +kernel
theorem dX7_change_82 : decode cX7_change 82 = .ok (.aload_n 0, 1) := by decide +kernel
theorem dX7_change_83 : decode cX7_change 83 = .ok (.iload 4, 2) := by decide +kernel
theorem dX7_change_85 : decode cX7_change 85 = .ok (.putfield 40, 3) := by decide +kernel
theorem dX7_change_88 : decode cX7_change 88 = .ok (.goto 26, 3) := by decide +kernel
theorem dX7_change_91 : decode cX7_change 91 = .ok (.aload_n 0, 1) := by decide +kernel
theorem dX7_change_92 : decode cX7_change 92 = .ok (.dup, 1) := by decide +kernel
theorem dX7_change_93 : decode cX7_change 93 = .ok (.getfield 24, 3) := by decide +kernel
theorem dX7_change_96 : decode cX7_change 96 = .ok (.iconst 1, 1) := by decide +kernel
theorem dX7_change_97 : decode cX7_change 97 = .ok (.iload_n 3, 1) := by decide +kernel
theorem dX7_change_98 : decode cX7_change 98 = .ok (.ishl, 1) := by decide +kernel
theorem dX7_change_99 : decode cX7_change 99 = .ok (.ixor, 1) := by decide +kernel
theorem dX7_change_100 : decode cX7_change 100 = .ok (.putfield 24, 3) := by decide +kernel
theorem dX7_change_103 : decode cX7_change 103 = .ok (.goto 11, 3) := by decide +kernel
theorem dX7_change_106 : decode cX7_change 106 = .ok (.aload_n 0, 1) := by decide +kernel
theorem dX7_change_107 : decode cX7_change 107 = .ok (.getfield 9, 3) := by decide +kernel
theorem dX7_change_110 : decode cX7_change 110 = .ok (.iload_n 3, 1) := by decide +kernel
theorem dX7_change_111 : decode cX7_change 111 = .ok (.iload 4, 2) := by decide +kernel
theorem dX7_change_113 : decode cX7_change 113 = .ok (.iastore, 1) := by decide +kernel
theorem dX7_change_114 : decode cX7_change 114 = .ok (.iconst 1, 1) := by decide +kernel
theorem dX7_change_115 : decode cX7_change 115 = .ok (.ireturn, 1) := by decide +kernel
theorem dX7_isAllowed_0 : decode cX7_isAllowed 0 = .ok (.iload_n 1, 1) := by decide +kernel
theorem dX7_isAllowed_1 : decode cX7_isAllowed 1 = .ok (.tableswitch 98 0 3 #[31, 50, 67, 83], 31) := by decide +kernel
theorem dX7_isAllowed_32 : decode cX7_isAllowed 32 = .ok (.iload_n 2, 1) := by decide +kernel
theorem dX7_isAllowed_33 : decode cX7_isAllowed 33 = .ok (.iconst 1, 1) := by decide +kernel
theorem dX7_isAllowed_34 : decode cX7_isAllowed 34 = .ok (.if_icmp .lt 15, 3) := by decide +kernel
theorem dX7_isAllowed_37 : decode cX7_isAllowed 37 = .ok (.iload_n 2, 1) := by decide +kernel
theorem dX7_isAllowed_38 : decode cX7_isAllowed 38 = .ok (.aload_n 0, 1) := by decide +kernel
theorem dX7_isAllowed_39 : decode cX7_isAllowed 39 = .ok (.getfield 86, 3) := by decide +kernel
theorem dX7_isAllowed_42 : decode cX7_isAllowed 42 = .ok (.if_icmp .gt 7, 3) := by decide +kernel
theorem dX7_isAllowed_45 : decode cX7_isAllowed 45 = .ok (.iconst 1, 1) := by decide +kernel
theorem dX7_isAllowed_46 : decode cX7_isAllowed 46 = .ok (.goto 4, 3) := by decide +kernel
theorem dX7_isAllowed_49 : decode cX7_isAllowed 49 = .ok (.iconst 0, 1) := by decide +kernel
theorem dX7_isAllowed_50 : decode cX7_isAllowed 50 = .ok (.ireturn, 1) := by decide +kernel
theorem dX7_isAllowed_51 : decode cX7_isAllowed 51 = .ok (.iload_n 2, 1) := by decide +kernel
theorem dX7_isAllowed_52 : decode cX7_isAllowed 52 = .ok (.ifCond .lt 14, 3) := by decide +kernel
theorem dX7_isAllowed_55 : decode cX7_isAllowed 55 = .ok (.iload_n 2, 1) := by decide +kernel
theorem dX7_isAllowed_56 : decode cX7_isAllowed 56 = .ok (.sipush 200, 3) := by decide +kernel
theorem dX7_isAllowed_59 : decode cX7_isAllowed 59 = .ok (.if_icmp .gt 7, 3) := by decide +kernel
theorem dX7_isAllowed_62 : decode cX7_isAllowed 62 = .ok (.iconst 1, 1) := by decide +kernel
theorem dX7_isAllowed_63 : decode cX7_isAllowed 63 = .ok (.goto 4, 3) := by decide +kernel
theorem dX7_isAllowed_66 : decode cX7_isAllowed 66 = .ok (.iconst 0, 1) := by decide +kernel
theorem dX7_isAllowed_67 : decode cX7_isAllowed 67 = .ok (.ireturn, 1) := by decide +kernel
theorem dX7_isAllowed_68 : decode cX7_isAllowed 68 = .ok (.iload_n 2, 1) := by decide +kernel
theorem dX7_isAllowed_69 : decode cX7_isAllowed 69 = .ok (.iconst 1, 1) := by decide +kernel
theorem dX7_isAllowed_70 : decode cX7_isAllowed 70 = .ok (.if_icmp .lt 12, 3) := by decide +kernel
theorem dX7_isAllowed_73 : decode cX7_isAllowed 73 = .ok (.iload_n 2, 1) := by decide +kernel
theorem dX7_isAllowed_74 : decode cX7_isAllowed 74 = .ok (.iconst 2, 1) := by decide +kernel
theorem dX7_isAllowed_75 : decode cX7_isAllowed 75 = .ok (.if_icmp .gt 7, 3) := by decide +kernel
theorem dX7_isAllowed_78 : decode cX7_isAllowed 78 = .ok (.iconst 1, 1) := by decide +kernel
theorem dX7_isAllowed_79 : decode cX7_isAllowed 79 = .ok (.goto 4, 3) := by decide +kernel
theorem dX7_isAllowed_82 : decode cX7_isAllowed 82 = .ok (.iconst 0, 1) := by decide +kernel
theorem dX7_isAllowed_83 : decode cX7_isAllowed 83 = .ok (.ireturn, 1) := by decide +kernel
theorem dX7_isAllowed_84 : decode cX7_isAllowed 84 = .ok (.iload_n 2, 1) := by decide +kernel
theorem dX7_isAllowed_85 : decode cX7_isAllowed 85 = .ok (.ifCond .eq 8, 3) := by decide +kernel
theorem dX7_isAllowed_88 : decode cX7_isAllowed 88 = .ok (.iload_n 2, 1) := by decide +kernel
theorem dX7_isAllowed_89 : decode cX7_isAllowed 89 = .ok (.iconst 1, 1) := by decide +kernel
theorem dX7_isAllowed_90 : decode cX7_isAllowed 90 = .ok (.if_icmp .ne 7, 3) := by decide +kernel
theorem dX7_isAllowed_93 : decode cX7_isAllowed 93 = .ok (.iconst 1, 1) := by decide +kernel
theorem dX7_isAllowed_94 : decode cX7_isAllowed 94 = .ok (.goto 4, 3) := by decide +kernel
theorem dX7_isAllowed_97 : decode cX7_isAllowed 97 = .ok (.iconst 0, 1) := by decide +kernel
theorem dX7_isAllowed_98 : decode cX7_isAllowed 98 = .ok (.ireturn, 1) := by decide +kernel
theorem dX7_isAllowed_99 : decode cX7_isAllowed 99 = .ok (.iload_n 2, 1) := by decide +kernel
theorem dX7_isAllowed_100 : decode cX7_isAllowed 100 = .ok (.ifCond .lt 13, 3) := by decide +kernel
theorem dX7_isAllowed_103 : decode cX7_isAllowed 103 = .ok (.iload_n 2, 1) := by decide +kernel
theorem dX7_isAllowed_104 : decode cX7_isAllowed 104 = .ok (.bipush 99, 2) := by decide +kernel
theorem dX7_isAllowed_106 : decode cX7_isAllowed 106 = .ok (.if_icmp .gt 7, 3) := by decide +kernel
theorem dX7_isAllowed_109 : decode cX7_isAllowed 109 = .ok (.iconst 1, 1) := by decide +kernel
theorem dX7_isAllowed_110 : decode cX7_isAllowed 110 = .ok (.goto 4, 3) := by decide +kernel
theorem dX7_isAllowed_113 : decode cX7_isAllowed 113 = .ok (.iconst 0, 1) := by decide +kernel
theorem dX7_isAllowed_114 : decode cX7_isAllowed 114 = .ok (.ireturn, 1) := by decide +kernel
theorem dX7_isLaw_0 : decode cX7_isLaw 0 = .ok (.iconst 0, 1) := by decide +kernel
theorem dX7_isLaw_1 : decode cX7_isLaw 1 = .ok (.istore_n 3, 1) := by decide +kernel
theorem dX7_isLaw_2 : decode cX7_isLaw 2 = .ok (.iload_n 3, 1) := by decide +kernel
theorem dX7_isLaw_3 : decode cX7_isLaw 3 = .ok (.aload_n 0, 1) := by decide +kernel
theorem dX7_isLaw_4 : decode cX7_isLaw 4 = .ok (.getfield 55, 3) := by decide +kernel
theorem dX7_isLaw_7 : decode cX7_isLaw 7 = .ok (.if_icmp .ge 36, 3) := by decide +kernel
theorem dX7_isLaw_10 : decode cX7_isLaw 10 = .ok (.iload_n 1, 1) := by decide +kernel
theorem dX7_isLaw_11 : decode cX7_isLaw 11 = .ok (.iload_n 2, 1) := by decide +kernel
theorem dX7_isLaw_12 : decode cX7_isLaw 12 = .ok (.aload_n 0, 1) := by decide +kernel
theorem dX7_isLaw_13 : decode cX7_isLaw 13 = .ok (.getfield 18, 3) := by decide +kernel
theorem dX7_isLaw_16 : decode cX7_isLaw 16 = .ok (.iload_n 3, 1) := by decide +kernel
theorem dX7_isLaw_17 : decode cX7_isLaw 17 = .ok (.iconst 2, 1) := by decide +kernel
theorem dX7_isLaw_18 : decode cX7_isLaw 18 = .ok (.imul, 1) := by decide +kernel
theorem dX7_isLaw_19 : decode cX7_isLaw 19 = .ok (.iaload, 1) := by decide +kernel
theorem dX7_isLaw_20 : decode cX7_isLaw 20 = .ok (.imul, 1) := by decide +kernel
theorem dX7_isLaw_21 : decode cX7_isLaw 21 = .ok (.iadd, 1) := by decide +kernel
theorem dX7_isLaw_22 : decode cX7_isLaw 22 = .ok (.aload_n 0, 1) := by decide +kernel
theorem dX7_isLaw_23 : decode cX7_isLaw 23 = .ok (.getfield 18, 3) := by decide +kernel
theorem dX7_isLaw_26 : decode cX7_isLaw 26 = .ok (.iload_n 3, 1) := by decide +kernel
theorem dX7_isLaw_27 : decode cX7_isLaw 27 = .ok (.iconst 2, 1) := by decide +kernel
theorem dX7_isLaw_28 : decode cX7_isLaw 28 = .ok (.imul, 1) := by decide +kernel
theorem dX7_isLaw_29 : decode cX7_isLaw 29 = .ok (.iconst 1, 1) := by decide +kernel
theorem dX7_isLaw_30 : decode cX7_isLaw 30 = .ok (.iadd, 1) := by decide +kernel
theorem dX7_isLaw_31 : decode cX7_isLaw 31 = .ok (.iaload, 1) := by decide +kernel
theorem dX7_isLaw_32 : decode cX7_isLaw 32 = .ok (.if_icmp .eq 5, 3) := by decide +kernel
theorem dX7_isLaw_35 : decode cX7_isLaw 35 = .ok (.iconst 0, 1) := by decide +kernel
theorem dX7_isLaw_36 : decode cX7_isLaw 36 = .ok (.ireturn, 1) := by decide +kernel
theorem dX7_isLaw_37 : decode cX7_isLaw 37 = .ok (.iinc 3 1, 3) := by decide +kernel
theorem dX7_isLaw_40 : decode cX7_isLaw 40 = .ok (.goto (-38), 3) := by decide +kernel
theorem dX7_isLaw_43 : decode cX7_isLaw 43 = .ok (.iconst 1, 1) := by decide +kernel
theorem dX7_isLaw_44 : decode cX7_isLaw 44 = .ok (.ireturn, 1) := by decide +kernel
