abbrev DDX12_isKept : Nat := 1
def f_X12_isKept  (s : HS) : Int32 :=
  (if (s.1 101 6) = 1 then (if (lg_cmp (s.2.1 101 7) 388978) = 0 then 1 else (if (lg_cmp (s.2.1 101 7) 43347) = 0 then 1 else (if (lg_cmp (s.2.1 101 7) 1890386) = 0 then 1 else (if (lg_cmp (s.2.1 101 7) 13318957) = 0 then 1 else (if (lg_cmp (s.2.1 101 7) 10793230) = 0 then 1 else (if (lg_cmp (s.2.1 101 7) 377722) = 0 then 1 else (if (lg_cmp (s.2.1 101 7) 8863997) = 0 then 1 else (if (lg_cmp (s.2.1 101 7) 6257) = 0 then 1 else (if (lg_cmp (s.2.1 101 7) 1900846) = 0 then 1 else (if (lg_cmp (s.2.1 101 7) 1494603) = 0 then 1 else (if (lg_cmp (s.2.1 101 7) 298288) = 0 then 1 else (if (lg_cmp (s.2.1 101 7) 82422) = 0 then 1 else (if (lg_cmp (s.2.1 101 7) 12253591) = 0 then 1 else (if (lg_cmp (s.2.1 101 7) 12528014) = 0 then 1 else (if (lg_cmp (s.2.1 101 7) 47328332) = 0 then 1 else (if (lg_cmp (s.2.1 101 7) 243208) = 0 then 1 else (if (lg_cmp (s.2.1 101 7) 14110) = 0 then 1 else (if (lg_cmp (s.2.1 101 7) 315743) = 0 then 1 else (if (lg_cmp (s.2.1 101 7) 237470) = 0 then 1 else (if (lg_cmp (s.2.1 101 7) 8328978) = 0 then 1 else (if (lg_cmp (s.2.1 101 7) 11522) = 0 then 1 else (if (lg_cmp (s.2.1 101 7) 257) = 0 then 1 else (if (lg_cmp (s.2.1 101 7) 15809) = 0 then 1 else (if (lg_cmp (s.2.1 101 7) 13703) = 0 then 1 else (if (lg_cmp (s.2.1 101 7) 14716) = 0 then 1 else (if (lg_cmp (s.2.1 101 7) 385495) = 0 then 1 else (if (lg_cmp (s.2.1 101 7) 11912) = 0 then 1 else (if (lg_cmp (s.2.1 101 7) 8740238) = 0 then 1 else (if (lg_cmp (s.2.1 101 7) 8813992) = 0 then 1 else (if (lg_cmp (s.2.1 101 7) 2690359) = 0 then 1 else (if (lg_cmp (s.2.1 101 7) 10631) = 0 then 1 else (if (lg_cmp (s.2.1 101 7) 1111) = 0 then 1 else (if (lg_cmp (s.2.1 101 7) 423) = 0 then 1 else 0))))))))))))))))))))))))))))))))) else 1)
set_option maxRecDepth 20000 in
set_option maxHeartbeats 2000000 in
theorem t_X12_isKept  (s : HS) {x : Int32} (hf : f_X12_isKept  s = x) : Mt DDX12_isKept miX12_isKept [.ref 101] NF (hp s) (some (.int x)) NF (hp s) := by
  refine Mt.of (by decide +kernel) (Nat.le_refl _) (Nat.le_of_ble_eq_true rfl) ?_
  show Ev DDX12_isKept miX12_isKept NF (some (.int x)) NF (hp s) 0 NF [(0, .ref 101)] [] (hp s)
  unfold f_X12_isKept at hf
  refine e_aload_n dX12_isKept_0 0 rfl rfl (pc2 := 1) rfl ?_
  refine e_getI fl_X12_218 dX12_isKept_1 so_101 (by decide) (pc2 := 4) rfl ?_
  refine e_iconst (x := 1) dX12_isKept_4 (by decide) (pc2 := 5) rfl ?_
  refine e_icmp_eq (tgt := 10) dX12_isKept_5 (by decide) (pc2 := 8) rfl (fun c1 => ?_) (fun c1 => ?_)
  · have hf := if_t c1 hf
    refine e_aload_n dX12_isKept_10 0 rfl rfl (pc2 := 11) rfl ?_
    refine e_getL fl_X12_211 dX12_isKept_11 so_101 rfl (pc2 := 14) rfl ?_
    refine e_ldc2 dX12_isKept_14 lk_X12_279 (pc2 := 17) rfl ?_
    refine e_lcmp dX12_isKept_17 (pc2 := 18) rfl ?_
    refine e_if_eq (tgt := 373) dX12_isKept_18 (by decide) (pc2 := 21) rfl (fun c2 => ?_) (fun c2 => ?_)
    · have hf := if_t c2 hf
      refine e_iconst (x := 1) dX12_isKept_373 (by decide) (pc2 := 374) rfl ?_
      refine e_goto (tgt := 378) dX12_isKept_374 (by decide) ?_
      cases hf
      exact e_zret (by decide) rfl dX12_isKept_378
    · have hf := if_f c2 hf
      refine e_aload_n dX12_isKept_21 0 rfl rfl (pc2 := 22) rfl ?_
      refine e_getL fl_X12_211 dX12_isKept_22 so_101 rfl (pc2 := 25) rfl ?_
      refine e_ldc2 dX12_isKept_25 lk_X12_281 (pc2 := 28) rfl ?_
      refine e_lcmp dX12_isKept_28 (pc2 := 29) rfl ?_
      refine e_if_eq (tgt := 373) dX12_isKept_29 (by decide) (pc2 := 32) rfl (fun c3 => ?_) (fun c3 => ?_)
      · have hf := if_t c3 hf
        refine e_iconst (x := 1) dX12_isKept_373 (by decide) (pc2 := 374) rfl ?_
        refine e_goto (tgt := 378) dX12_isKept_374 (by decide) ?_
        cases hf
        exact e_zret (by decide) rfl dX12_isKept_378
      · have hf := if_f c3 hf
        refine e_aload_n dX12_isKept_32 0 rfl rfl (pc2 := 33) rfl ?_
        refine e_getL fl_X12_211 dX12_isKept_33 so_101 rfl (pc2 := 36) rfl ?_
        refine e_ldc2 dX12_isKept_36 lk_X12_283 (pc2 := 39) rfl ?_
        refine e_lcmp dX12_isKept_39 (pc2 := 40) rfl ?_
        refine e_if_eq (tgt := 373) dX12_isKept_40 (by decide) (pc2 := 43) rfl (fun c4 => ?_) (fun c4 => ?_)
        · have hf := if_t c4 hf
          refine e_iconst (x := 1) dX12_isKept_373 (by decide) (pc2 := 374) rfl ?_
          refine e_goto (tgt := 378) dX12_isKept_374 (by decide) ?_
          cases hf
          exact e_zret (by decide) rfl dX12_isKept_378
        · have hf := if_f c4 hf
          refine e_aload_n dX12_isKept_43 0 rfl rfl (pc2 := 44) rfl ?_
          refine e_getL fl_X12_211 dX12_isKept_44 so_101 rfl (pc2 := 47) rfl ?_
          refine e_ldc2 dX12_isKept_47 lk_X12_285 (pc2 := 50) rfl ?_
          refine e_lcmp dX12_isKept_50 (pc2 := 51) rfl ?_
          refine e_if_eq (tgt := 373) dX12_isKept_51 (by decide) (pc2 := 54) rfl (fun c5 => ?_) (fun c5 => ?_)
          · have hf := if_t c5 hf
            refine e_iconst (x := 1) dX12_isKept_373 (by decide) (pc2 := 374) rfl ?_
            refine e_goto (tgt := 378) dX12_isKept_374 (by decide) ?_
            cases hf
            exact e_zret (by decide) rfl dX12_isKept_378
          · have hf := if_f c5 hf
            refine e_aload_n dX12_isKept_54 0 rfl rfl (pc2 := 55) rfl ?_
            refine e_getL fl_X12_211 dX12_isKept_55 so_101 rfl (pc2 := 58) rfl ?_
            refine e_ldc2 dX12_isKept_58 lk_X12_287 (pc2 := 61) rfl ?_
            refine e_lcmp dX12_isKept_61 (pc2 := 62) rfl ?_
            refine e_if_eq (tgt := 373) dX12_isKept_62 (by decide) (pc2 := 65) rfl (fun c6 => ?_) (fun c6 => ?_)
            · have hf := if_t c6 hf
              refine e_iconst (x := 1) dX12_isKept_373 (by decide) (pc2 := 374) rfl ?_
              refine e_goto (tgt := 378) dX12_isKept_374 (by decide) ?_
              cases hf
              exact e_zret (by decide) rfl dX12_isKept_378
            · have hf := if_f c6 hf
              refine e_aload_n dX12_isKept_65 0 rfl rfl (pc2 := 66) rfl ?_
              refine e_getL fl_X12_211 dX12_isKept_66 so_101 rfl (pc2 := 69) rfl ?_
              refine e_ldc2 dX12_isKept_69 lk_X12_289 (pc2 := 72) rfl ?_
              refine e_lcmp dX12_isKept_72 (pc2 := 73) rfl ?_
              refine e_if_eq (tgt := 373) dX12_isKept_73 (by decide) (pc2 := 76) rfl (fun c7 => ?_) (fun c7 => ?_)
              · have hf := if_t c7 hf
                refine e_iconst (x := 1) dX12_isKept_373 (by decide) (pc2 := 374) rfl ?_
                refine e_goto (tgt := 378) dX12_isKept_374 (by decide) ?_
                cases hf
                exact e_zret (by decide) rfl dX12_isKept_378
              · have hf := if_f c7 hf
                refine e_aload_n dX12_isKept_76 0 rfl rfl (pc2 := 77) rfl ?_
                refine e_getL fl_X12_211 dX12_isKept_77 so_101 rfl (pc2 := 80) rfl ?_
                refine e_ldc2 dX12_isKept_80 lk_X12_291 (pc2 := 83) rfl ?_
                refine e_lcmp dX12_isKept_83 (pc2 := 84) rfl ?_
                refine e_if_eq (tgt := 373) dX12_isKept_84 (by decide) (pc2 := 87) rfl (fun c8 => ?_) (fun c8 => ?_)
                · have hf := if_t c8 hf
                  refine e_iconst (x := 1) dX12_isKept_373 (by decide) (pc2 := 374) rfl ?_
                  refine e_goto (tgt := 378) dX12_isKept_374 (by decide) ?_
                  cases hf
                  exact e_zret (by decide) rfl dX12_isKept_378
                · have hf := if_f c8 hf
                  refine e_aload_n dX12_isKept_87 0 rfl rfl (pc2 := 88) rfl ?_
                  refine e_getL fl_X12_211 dX12_isKept_88 so_101 rfl (pc2 := 91) rfl ?_
                  refine e_ldc2 dX12_isKept_91 lk_X12_293 (pc2 := 94) rfl ?_
                  refine e_lcmp dX12_isKept_94 (pc2 := 95) rfl ?_
                  refine e_if_eq (tgt := 373) dX12_isKept_95 (by decide) (pc2 := 98) rfl (fun c9 => ?_) (fun c9 => ?_)
                  · have hf := if_t c9 hf
                    refine e_iconst (x := 1) dX12_isKept_373 (by decide) (pc2 := 374) rfl ?_
                    refine e_goto (tgt := 378) dX12_isKept_374 (by decide) ?_
                    cases hf
                    exact e_zret (by decide) rfl dX12_isKept_378
                  · have hf := if_f c9 hf
                    refine e_aload_n dX12_isKept_98 0 rfl rfl (pc2 := 99) rfl ?_
                    refine e_getL fl_X12_211 dX12_isKept_99 so_101 rfl (pc2 := 102) rfl ?_
                    refine e_ldc2 dX12_isKept_102 lk_X12_295 (pc2 := 105) rfl ?_
                    refine e_lcmp dX12_isKept_105 (pc2 := 106) rfl ?_
                    refine e_if_eq (tgt := 373) dX12_isKept_106 (by decide) (pc2 := 109) rfl (fun c10 => ?_) (fun c10 => ?_)
                    · have hf := if_t c10 hf
                      refine e_iconst (x := 1) dX12_isKept_373 (by decide) (pc2 := 374) rfl ?_
                      refine e_goto (tgt := 378) dX12_isKept_374 (by decide) ?_
                      cases hf
                      exact e_zret (by decide) rfl dX12_isKept_378
                    · have hf := if_f c10 hf
                      refine e_aload_n dX12_isKept_109 0 rfl rfl (pc2 := 110) rfl ?_
                      refine e_getL fl_X12_211 dX12_isKept_110 so_101 rfl (pc2 := 113) rfl ?_
                      refine e_ldc2 dX12_isKept_113 lk_X12_297 (pc2 := 116) rfl ?_
                      refine e_lcmp dX12_isKept_116 (pc2 := 117) rfl ?_
                      refine e_if_eq (tgt := 373) dX12_isKept_117 (by decide) (pc2 := 120) rfl (fun c11 => ?_) (fun c11 => ?_)
                      · have hf := if_t c11 hf
                        refine e_iconst (x := 1) dX12_isKept_373 (by decide) (pc2 := 374) rfl ?_
                        refine e_goto (tgt := 378) dX12_isKept_374 (by decide) ?_
                        cases hf
                        exact e_zret (by decide) rfl dX12_isKept_378
                      · have hf := if_f c11 hf
                        refine e_aload_n dX12_isKept_120 0 rfl rfl (pc2 := 121) rfl ?_
                        refine e_getL fl_X12_211 dX12_isKept_121 so_101 rfl (pc2 := 124) rfl ?_
                        refine e_ldc2 dX12_isKept_124 lk_X12_299 (pc2 := 127) rfl ?_
                        refine e_lcmp dX12_isKept_127 (pc2 := 128) rfl ?_
                        refine e_if_eq (tgt := 373) dX12_isKept_128 (by decide) (pc2 := 131) rfl (fun c12 => ?_) (fun c12 => ?_)
                        · have hf := if_t c12 hf
                          refine e_iconst (x := 1) dX12_isKept_373 (by decide) (pc2 := 374) rfl ?_
                          refine e_goto (tgt := 378) dX12_isKept_374 (by decide) ?_
                          cases hf
                          exact e_zret (by decide) rfl dX12_isKept_378
                        · have hf := if_f c12 hf
                          refine e_aload_n dX12_isKept_131 0 rfl rfl (pc2 := 132) rfl ?_
                          refine e_getL fl_X12_211 dX12_isKept_132 so_101 rfl (pc2 := 135) rfl ?_
                          refine e_ldc2 dX12_isKept_135 lk_X12_301 (pc2 := 138) rfl ?_
                          refine e_lcmp dX12_isKept_138 (pc2 := 139) rfl ?_
                          refine e_if_eq (tgt := 373) dX12_isKept_139 (by decide) (pc2 := 142) rfl (fun c13 => ?_) (fun c13 => ?_)
                          · have hf := if_t c13 hf
                            refine e_iconst (x := 1) dX12_isKept_373 (by decide) (pc2 := 374) rfl ?_
                            refine e_goto (tgt := 378) dX12_isKept_374 (by decide) ?_
                            cases hf
                            exact e_zret (by decide) rfl dX12_isKept_378
                          · have hf := if_f c13 hf
                            refine e_aload_n dX12_isKept_142 0 rfl rfl (pc2 := 143) rfl ?_
                            refine e_getL fl_X12_211 dX12_isKept_143 so_101 rfl (pc2 := 146) rfl ?_
                            refine e_ldc2 dX12_isKept_146 lk_X12_303 (pc2 := 149) rfl ?_
                            refine e_lcmp dX12_isKept_149 (pc2 := 150) rfl ?_
                            refine e_if_eq (tgt := 373) dX12_isKept_150 (by decide) (pc2 := 153) rfl (fun c14 => ?_) (fun c14 => ?_)
                            · have hf := if_t c14 hf
                              refine e_iconst (x := 1) dX12_isKept_373 (by decide) (pc2 := 374) rfl ?_
                              refine e_goto (tgt := 378) dX12_isKept_374 (by decide) ?_
                              cases hf
                              exact e_zret (by decide) rfl dX12_isKept_378
                            · have hf := if_f c14 hf
                              refine e_aload_n dX12_isKept_153 0 rfl rfl (pc2 := 154) rfl ?_
                              refine e_getL fl_X12_211 dX12_isKept_154 so_101 rfl (pc2 := 157) rfl ?_
                              refine e_ldc2 dX12_isKept_157 lk_X12_305 (pc2 := 160) rfl ?_
                              refine e_lcmp dX12_isKept_160 (pc2 := 161) rfl ?_
                              refine e_if_eq (tgt := 373) dX12_isKept_161 (by decide) (pc2 := 164) rfl (fun c15 => ?_) (fun c15 => ?_)
                              · have hf := if_t c15 hf
                                refine e_iconst (x := 1) dX12_isKept_373 (by decide) (pc2 := 374) rfl ?_
                                refine e_goto (tgt := 378) dX12_isKept_374 (by decide) ?_
                                cases hf
                                exact e_zret (by decide) rfl dX12_isKept_378
                              · have hf := if_f c15 hf
                                refine e_aload_n dX12_isKept_164 0 rfl rfl (pc2 := 165) rfl ?_
                                refine e_getL fl_X12_211 dX12_isKept_165 so_101 rfl (pc2 := 168) rfl ?_
                                refine e_ldc2 dX12_isKept_168 lk_X12_307 (pc2 := 171) rfl ?_
                                refine e_lcmp dX12_isKept_171 (pc2 := 172) rfl ?_
                                refine e_if_eq (tgt := 373) dX12_isKept_172 (by decide) (pc2 := 175) rfl (fun c16 => ?_) (fun c16 => ?_)
                                · have hf := if_t c16 hf
                                  refine e_iconst (x := 1) dX12_isKept_373 (by decide) (pc2 := 374) rfl ?_
                                  refine e_goto (tgt := 378) dX12_isKept_374 (by decide) ?_
                                  cases hf
                                  exact e_zret (by decide) rfl dX12_isKept_378
                                · have hf := if_f c16 hf
                                  refine e_aload_n dX12_isKept_175 0 rfl rfl (pc2 := 176) rfl ?_
                                  refine e_getL fl_X12_211 dX12_isKept_176 so_101 rfl (pc2 := 179) rfl ?_
                                  refine e_ldc2 dX12_isKept_179 lk_X12_309 (pc2 := 182) rfl ?_
                                  refine e_lcmp dX12_isKept_182 (pc2 := 183) rfl ?_
                                  refine e_if_eq (tgt := 373) dX12_isKept_183 (by decide) (pc2 := 186) rfl (fun c17 => ?_) (fun c17 => ?_)
                                  · have hf := if_t c17 hf
                                    refine e_iconst (x := 1) dX12_isKept_373 (by decide) (pc2 := 374) rfl ?_
                                    refine e_goto (tgt := 378) dX12_isKept_374 (by decide) ?_
                                    cases hf
                                    exact e_zret (by decide) rfl dX12_isKept_378
                                  · have hf := if_f c17 hf
                                    refine e_aload_n dX12_isKept_186 0 rfl rfl (pc2 := 187) rfl ?_
                                    refine e_getL fl_X12_211 dX12_isKept_187 so_101 rfl (pc2 := 190) rfl ?_
                                    refine e_ldc2 dX12_isKept_190 lk_X12_311 (pc2 := 193) rfl ?_
                                    refine e_lcmp dX12_isKept_193 (pc2 := 194) rfl ?_
                                    refine e_if_eq (tgt := 373) dX12_isKept_194 (by decide) (pc2 := 197) rfl (fun c18 => ?_) (fun c18 => ?_)
                                    · have hf := if_t c18 hf
                                      refine e_iconst (x := 1) dX12_isKept_373 (by decide) (pc2 := 374) rfl ?_
                                      refine e_goto (tgt := 378) dX12_isKept_374 (by decide) ?_
                                      cases hf
                                      exact e_zret (by decide) rfl dX12_isKept_378
                                    · have hf := if_f c18 hf
                                      refine e_aload_n dX12_isKept_197 0 rfl rfl (pc2 := 198) rfl ?_
                                      refine e_getL fl_X12_211 dX12_isKept_198 so_101 rfl (pc2 := 201) rfl ?_
                                      refine e_ldc2 dX12_isKept_201 lk_X12_313 (pc2 := 204) rfl ?_
                                      refine e_lcmp dX12_isKept_204 (pc2 := 205) rfl ?_
                                      refine e_if_eq (tgt := 373) dX12_isKept_205 (by decide) (pc2 := 208) rfl (fun c19 => ?_) (fun c19 => ?_)
                                      · have hf := if_t c19 hf
                                        refine e_iconst (x := 1) dX12_isKept_373 (by decide) (pc2 := 374) rfl ?_
                                        refine e_goto (tgt := 378) dX12_isKept_374 (by decide) ?_
                                        cases hf
                                        exact e_zret (by decide) rfl dX12_isKept_378
                                      · have hf := if_f c19 hf
                                        refine e_aload_n dX12_isKept_208 0 rfl rfl (pc2 := 209) rfl ?_
                                        refine e_getL fl_X12_211 dX12_isKept_209 so_101 rfl (pc2 := 212) rfl ?_
                                        refine e_ldc2 dX12_isKept_212 lk_X12_315 (pc2 := 215) rfl ?_
                                        refine e_lcmp dX12_isKept_215 (pc2 := 216) rfl ?_
                                        refine e_if_eq (tgt := 373) dX12_isKept_216 (by decide) (pc2 := 219) rfl (fun c20 => ?_) (fun c20 => ?_)
                                        · have hf := if_t c20 hf
                                          refine e_iconst (x := 1) dX12_isKept_373 (by decide) (pc2 := 374) rfl ?_
                                          refine e_goto (tgt := 378) dX12_isKept_374 (by decide) ?_
                                          cases hf
                                          exact e_zret (by decide) rfl dX12_isKept_378
                                        · have hf := if_f c20 hf
                                          refine e_aload_n dX12_isKept_219 0 rfl rfl (pc2 := 220) rfl ?_
                                          refine e_getL fl_X12_211 dX12_isKept_220 so_101 rfl (pc2 := 223) rfl ?_
                                          refine e_ldc2 dX12_isKept_223 lk_X12_317 (pc2 := 226) rfl ?_
                                          refine e_lcmp dX12_isKept_226 (pc2 := 227) rfl ?_
                                          refine e_if_eq (tgt := 373) dX12_isKept_227 (by decide) (pc2 := 230) rfl (fun c21 => ?_) (fun c21 => ?_)
                                          · have hf := if_t c21 hf
                                            refine e_iconst (x := 1) dX12_isKept_373 (by decide) (pc2 := 374) rfl ?_
                                            refine e_goto (tgt := 378) dX12_isKept_374 (by decide) ?_
                                            cases hf
                                            exact e_zret (by decide) rfl dX12_isKept_378
                                          · have hf := if_f c21 hf
                                            refine e_aload_n dX12_isKept_230 0 rfl rfl (pc2 := 231) rfl ?_
                                            refine e_getL fl_X12_211 dX12_isKept_231 so_101 rfl (pc2 := 234) rfl ?_
                                            refine e_ldc2 dX12_isKept_234 lk_X12_319 (pc2 := 237) rfl ?_
                                            refine e_lcmp dX12_isKept_237 (pc2 := 238) rfl ?_
                                            refine e_if_eq (tgt := 373) dX12_isKept_238 (by decide) (pc2 := 241) rfl (fun c22 => ?_) (fun c22 => ?_)
                                            · have hf := if_t c22 hf
                                              refine e_iconst (x := 1) dX12_isKept_373 (by decide) (pc2 := 374) rfl ?_
                                              refine e_goto (tgt := 378) dX12_isKept_374 (by decide) ?_
                                              cases hf
                                              exact e_zret (by decide) rfl dX12_isKept_378
                                            · have hf := if_f c22 hf
                                              refine e_aload_n dX12_isKept_241 0 rfl rfl (pc2 := 242) rfl ?_
                                              refine e_getL fl_X12_211 dX12_isKept_242 so_101 rfl (pc2 := 245) rfl ?_
                                              refine e_ldc2 dX12_isKept_245 lk_X12_321 (pc2 := 248) rfl ?_
                                              refine e_lcmp dX12_isKept_248 (pc2 := 249) rfl ?_
                                              refine e_if_eq (tgt := 373) dX12_isKept_249 (by decide) (pc2 := 252) rfl (fun c23 => ?_) (fun c23 => ?_)
                                              · have hf := if_t c23 hf
                                                refine e_iconst (x := 1) dX12_isKept_373 (by decide) (pc2 := 374) rfl ?_
                                                refine e_goto (tgt := 378) dX12_isKept_374 (by decide) ?_
                                                cases hf
                                                exact e_zret (by decide) rfl dX12_isKept_378
                                              · have hf := if_f c23 hf
                                                refine e_aload_n dX12_isKept_252 0 rfl rfl (pc2 := 253) rfl ?_
                                                refine e_getL fl_X12_211 dX12_isKept_253 so_101 rfl (pc2 := 256) rfl ?_
                                                refine e_ldc2 dX12_isKept_256 lk_X12_323 (pc2 := 259) rfl ?_
                                                refine e_lcmp dX12_isKept_259 (pc2 := 260) rfl ?_
                                                refine e_if_eq (tgt := 373) dX12_isKept_260 (by decide) (pc2 := 263) rfl (fun c24 => ?_) (fun c24 => ?_)
                                                · have hf := if_t c24 hf
                                                  refine e_iconst (x := 1) dX12_isKept_373 (by decide) (pc2 := 374) rfl ?_
                                                  refine e_goto (tgt := 378) dX12_isKept_374 (by decide) ?_
                                                  cases hf
                                                  exact e_zret (by decide) rfl dX12_isKept_378
                                                · have hf := if_f c24 hf
                                                  refine e_aload_n dX12_isKept_263 0 rfl rfl (pc2 := 264) rfl ?_
                                                  refine e_getL fl_X12_211 dX12_isKept_264 so_101 rfl (pc2 := 267) rfl ?_
                                                  refine e_ldc2 dX12_isKept_267 lk_X12_325 (pc2 := 270) rfl ?_
                                                  refine e_lcmp dX12_isKept_270 (pc2 := 271) rfl ?_
                                                  refine e_if_eq (tgt := 373) dX12_isKept_271 (by decide) (pc2 := 274) rfl (fun c25 => ?_) (fun c25 => ?_)
                                                  · have hf := if_t c25 hf
                                                    refine e_iconst (x := 1) dX12_isKept_373 (by decide) (pc2 := 374) rfl ?_
                                                    refine e_goto (tgt := 378) dX12_isKept_374 (by decide) ?_
                                                    cases hf
                                                    exact e_zret (by decide) rfl dX12_isKept_378
                                                  · have hf := if_f c25 hf
                                                    refine e_aload_n dX12_isKept_274 0 rfl rfl (pc2 := 275) rfl ?_
                                                    refine e_getL fl_X12_211 dX12_isKept_275 so_101 rfl (pc2 := 278) rfl ?_
                                                    refine e_ldc2 dX12_isKept_278 lk_X12_327 (pc2 := 281) rfl ?_
                                                    refine e_lcmp dX12_isKept_281 (pc2 := 282) rfl ?_
                                                    refine e_if_eq (tgt := 373) dX12_isKept_282 (by decide) (pc2 := 285) rfl (fun c26 => ?_) (fun c26 => ?_)
                                                    · have hf := if_t c26 hf
                                                      refine e_iconst (x := 1) dX12_isKept_373 (by decide) (pc2 := 374) rfl ?_
                                                      refine e_goto (tgt := 378) dX12_isKept_374 (by decide) ?_
                                                      cases hf
                                                      exact e_zret (by decide) rfl dX12_isKept_378
                                                    · have hf := if_f c26 hf
                                                      refine e_aload_n dX12_isKept_285 0 rfl rfl (pc2 := 286) rfl ?_
                                                      refine e_getL fl_X12_211 dX12_isKept_286 so_101 rfl (pc2 := 289) rfl ?_
                                                      refine e_ldc2 dX12_isKept_289 lk_X12_329 (pc2 := 292) rfl ?_
                                                      refine e_lcmp dX12_isKept_292 (pc2 := 293) rfl ?_
                                                      refine e_if_eq (tgt := 373) dX12_isKept_293 (by decide) (pc2 := 296) rfl (fun c27 => ?_) (fun c27 => ?_)
                                                      · have hf := if_t c27 hf
                                                        refine e_iconst (x := 1) dX12_isKept_373 (by decide) (pc2 := 374) rfl ?_
                                                        refine e_goto (tgt := 378) dX12_isKept_374 (by decide) ?_
                                                        cases hf
                                                        exact e_zret (by decide) rfl dX12_isKept_378
                                                      · have hf := if_f c27 hf
                                                        refine e_aload_n dX12_isKept_296 0 rfl rfl (pc2 := 297) rfl ?_
                                                        refine e_getL fl_X12_211 dX12_isKept_297 so_101 rfl (pc2 := 300) rfl ?_
                                                        refine e_ldc2 dX12_isKept_300 lk_X12_331 (pc2 := 303) rfl ?_
                                                        refine e_lcmp dX12_isKept_303 (pc2 := 304) rfl ?_
                                                        refine e_if_eq (tgt := 373) dX12_isKept_304 (by decide) (pc2 := 307) rfl (fun c28 => ?_) (fun c28 => ?_)
                                                        · have hf := if_t c28 hf
                                                          refine e_iconst (x := 1) dX12_isKept_373 (by decide) (pc2 := 374) rfl ?_
                                                          refine e_goto (tgt := 378) dX12_isKept_374 (by decide) ?_
                                                          cases hf
                                                          exact e_zret (by decide) rfl dX12_isKept_378
                                                        · have hf := if_f c28 hf
                                                          refine e_aload_n dX12_isKept_307 0 rfl rfl (pc2 := 308) rfl ?_
                                                          refine e_getL fl_X12_211 dX12_isKept_308 so_101 rfl (pc2 := 311) rfl ?_
                                                          refine e_ldc2 dX12_isKept_311 lk_X12_333 (pc2 := 314) rfl ?_
                                                          refine e_lcmp dX12_isKept_314 (pc2 := 315) rfl ?_
                                                          refine e_if_eq (tgt := 373) dX12_isKept_315 (by decide) (pc2 := 318) rfl (fun c29 => ?_) (fun c29 => ?_)
                                                          · have hf := if_t c29 hf
                                                            refine e_iconst (x := 1) dX12_isKept_373 (by decide) (pc2 := 374) rfl ?_
                                                            refine e_goto (tgt := 378) dX12_isKept_374 (by decide) ?_
                                                            cases hf
                                                            exact e_zret (by decide) rfl dX12_isKept_378
                                                          · have hf := if_f c29 hf
                                                            refine e_aload_n dX12_isKept_318 0 rfl rfl (pc2 := 319) rfl ?_
                                                            refine e_getL fl_X12_211 dX12_isKept_319 so_101 rfl (pc2 := 322) rfl ?_
                                                            refine e_ldc2 dX12_isKept_322 lk_X12_335 (pc2 := 325) rfl ?_
                                                            refine e_lcmp dX12_isKept_325 (pc2 := 326) rfl ?_
                                                            refine e_if_eq (tgt := 373) dX12_isKept_326 (by decide) (pc2 := 329) rfl (fun c30 => ?_) (fun c30 => ?_)
                                                            · have hf := if_t c30 hf
                                                              refine e_iconst (x := 1) dX12_isKept_373 (by decide) (pc2 := 374) rfl ?_
                                                              refine e_goto (tgt := 378) dX12_isKept_374 (by decide) ?_
                                                              cases hf
                                                              exact e_zret (by decide) rfl dX12_isKept_378
                                                            · have hf := if_f c30 hf
                                                              refine e_aload_n dX12_isKept_329 0 rfl rfl (pc2 := 330) rfl ?_
                                                              refine e_getL fl_X12_211 dX12_isKept_330 so_101 rfl (pc2 := 333) rfl ?_
                                                              refine e_ldc2 dX12_isKept_333 lk_X12_337 (pc2 := 336) rfl ?_
                                                              refine e_lcmp dX12_isKept_336 (pc2 := 337) rfl ?_
                                                              refine e_if_eq (tgt := 373) dX12_isKept_337 (by decide) (pc2 := 340) rfl (fun c31 => ?_) (fun c31 => ?_)
                                                              · have hf := if_t c31 hf
                                                                refine e_iconst (x := 1) dX12_isKept_373 (by decide) (pc2 := 374) rfl ?_
                                                                refine e_goto (tgt := 378) dX12_isKept_374 (by decide) ?_
                                                                cases hf
                                                                exact e_zret (by decide) rfl dX12_isKept_378
                                                              · have hf := if_f c31 hf
                                                                refine e_aload_n dX12_isKept_340 0 rfl rfl (pc2 := 341) rfl ?_
                                                                refine e_getL fl_X12_211 dX12_isKept_341 so_101 rfl (pc2 := 344) rfl ?_
                                                                refine e_ldc2 dX12_isKept_344 lk_X12_247 (pc2 := 347) rfl ?_
                                                                refine e_lcmp dX12_isKept_347 (pc2 := 348) rfl ?_
                                                                refine e_if_eq (tgt := 373) dX12_isKept_348 (by decide) (pc2 := 351) rfl (fun c32 => ?_) (fun c32 => ?_)
                                                                · have hf := if_t c32 hf
                                                                  refine e_iconst (x := 1) dX12_isKept_373 (by decide) (pc2 := 374) rfl ?_
                                                                  refine e_goto (tgt := 378) dX12_isKept_374 (by decide) ?_
                                                                  cases hf
                                                                  exact e_zret (by decide) rfl dX12_isKept_378
                                                                · have hf := if_f c32 hf
                                                                  refine e_aload_n dX12_isKept_351 0 rfl rfl (pc2 := 352) rfl ?_
                                                                  refine e_getL fl_X12_211 dX12_isKept_352 so_101 rfl (pc2 := 355) rfl ?_
                                                                  refine e_ldc2 dX12_isKept_355 lk_X12_266 (pc2 := 358) rfl ?_
                                                                  refine e_lcmp dX12_isKept_358 (pc2 := 359) rfl ?_
                                                                  refine e_if_eq (tgt := 373) dX12_isKept_359 (by decide) (pc2 := 362) rfl (fun c33 => ?_) (fun c33 => ?_)
                                                                  · have hf := if_t c33 hf
                                                                    refine e_iconst (x := 1) dX12_isKept_373 (by decide) (pc2 := 374) rfl ?_
                                                                    refine e_goto (tgt := 378) dX12_isKept_374 (by decide) ?_
                                                                    cases hf
                                                                    exact e_zret (by decide) rfl dX12_isKept_378
                                                                  · have hf := if_f c33 hf
                                                                    refine e_aload_n dX12_isKept_362 0 rfl rfl (pc2 := 363) rfl ?_
                                                                    refine e_getL fl_X12_211 dX12_isKept_363 so_101 rfl (pc2 := 366) rfl ?_
                                                                    refine e_ldc2 dX12_isKept_366 lk_X12_268 (pc2 := 369) rfl ?_
                                                                    refine e_lcmp dX12_isKept_369 (pc2 := 370) rfl ?_
                                                                    refine e_if_ne (tgt := 377) dX12_isKept_370 (by decide) (pc2 := 373) rfl (fun c34 => ?_) (fun c34 => ?_)
                                                                    · have hf := if_f c34 hf
                                                                      refine e_iconst (x := 0) dX12_isKept_377 (by decide) (pc2 := 378) rfl ?_
                                                                      cases hf
                                                                      exact e_zret (by decide) rfl dX12_isKept_378
                                                                    · have hf := if_t c34 hf
                                                                      refine e_iconst (x := 1) dX12_isKept_373 (by decide) (pc2 := 374) rfl ?_
                                                                      refine e_goto (tgt := 378) dX12_isKept_374 (by decide) ?_
                                                                      cases hf
                                                                      exact e_zret (by decide) rfl dX12_isKept_378
  · have hf := if_f c1 hf
    refine e_iconst (x := 1) dX12_isKept_8 (by decide) (pc2 := 9) rfl ?_
    cases hf
    exact e_zret (by decide) rfl dX12_isKept_9
abbrev DDX12_named : Nat := 1
def f_X12_named_l3b (v0 : Nat) (v1 : Int32) (v2 : Int32) (v3 : Int64) (v5 : Int32) (k3 : Int32 → Option Int32) (s : HS) : Option Int32 :=
  (if (v1 + v2) ≤ v5 then some (-1) else gd (inb v5 (sk v0).2) ((if (lg_cmp (s.2.1 v0 v5.toNatClampNeg) v3) = 0 then some (v5 - v1) else ltb (v5 + 1) fun x4 => k3 x4)))
set_option maxRecDepth 20000 in
set_option maxHeartbeats 2000000 in
theorem t_X12_named_l3b (v0 : Nat) (v1 : Int32) (v2 : Int32) (v3 : Int64) (v5 : Int32) (hv0 : aok 2 v0 = true) (s : HS) {x : Int32} (k3 : Int32 → Option Int32) (hk3 : ∀ (a5 : Int32), k3 a5 = some x → Ev DDX12_named miX12_named NF (some (.int x)) NF (hp s) 3 NF [(0, .ref v0), (1, .int v1), (2, .int v2), (3, .long v3), (5, .int a5)] [] (hp s)) (hf : f_X12_named_l3b v0 v1 v2 v3 v5 k3 s = some x) : Ev DDX12_named miX12_named NF (some (.int x)) NF (hp s) 3 NF [(0, .ref v0), (1, .int v1), (2, .int v2), (3, .long v3), (5, .int v5)] [] (hp s) := by
  refine e_iload dX12_named_3 4 rfl (pc2 := 5) rfl ?_
  refine e_iload_n dX12_named_5 1 rfl rfl (pc2 := 6) rfl ?_
  refine e_iload_n dX12_named_6 2 rfl rfl (pc2 := 7) rfl ?_
  refine e_iadd dX12_named_7 (pc2 := 8) rfl ?_
  refine e_icmp_ge (tgt := 31) dX12_named_8 (by decide) (pc2 := 11) rfl (fun c1 => ?_) (fun c1 => ?_)
  · have hf := if_t c1 hf
    refine e_iconst (x := (-1)) dX12_named_31 (by decide) (pc2 := 32) rfl ?_
    cases hf
    exact e_iret rfl dX12_named_32
  · have hf := if_f c1 hf
    refine e_aload_n dX12_named_11 0 rfl rfl (pc2 := 12) rfl ?_
    refine e_iload dX12_named_12 4 rfl (pc2 := 14) rfl ?_
    obtain ⟨g2, hf⟩ := gd_some hf
    refine e_lald dX12_named_14 (aok_a hv0) (inb_v g2) (pc2 := 15) rfl ?_
    refine e_lload_n dX12_named_15 3 rfl rfl (pc2 := 16) rfl ?_
    refine e_lcmp dX12_named_16 (pc2 := 17) rfl ?_
    refine e_if_ne (tgt := 25) dX12_named_17 (by decide) (pc2 := 20) rfl (fun c3 => ?_) (fun c3 => ?_)
    · have hf := if_f c3 hf
      obtain ⟨x4, ex4, hf⟩ := ltb_s hf
      refine e_iinc dX12_named_25 4 rfl (c9 := 1) (by decide) ex4.symm (by decide) (ls' := [(0, .ref v0), (1, .int v1), (2, .int v2), (3, .long v3), (5, .int x4)]) [1, 2, 3, 4, 0] rfl (pc2 := 28) rfl ?_
      refine e_goto (tgt := 3) dX12_named_28 (by decide) ?_
      exact hk3 x4 hf
    · have hf := if_t c3 hf
      refine e_iload dX12_named_20 4 rfl (pc2 := 22) rfl ?_
      refine e_iload_n dX12_named_22 1 rfl rfl (pc2 := 23) rfl ?_
      refine e_isub dX12_named_23 (pc2 := 24) rfl ?_
      cases hf
      exact e_iret rfl dX12_named_24
def f_X12_named_l3 (v0 : Nat) (v1 : Int32) (v2 : Int32) (v3 : Int64) (s : HS) : Nat → Int32 → Option Int32
  | 0, _ => none
  | n + 1, v5 => f_X12_named_l3b v0 v1 v2 v3 v5 (f_X12_named_l3 v0 v1 v2 v3 s n)  s
set_option maxRecDepth 20000 in
set_option maxHeartbeats 2000000 in
theorem t_X12_named_l3 (v0 : Nat) (v1 : Int32) (v2 : Int32) (v3 : Int64) (hv0 : aok 2 v0 = true) (s : HS) {x : Int32}  : ∀ (n : Nat) (v5 : Int32), f_X12_named_l3 v0 v1 v2 v3 s n v5 = some x → Ev DDX12_named miX12_named NF (some (.int x)) NF (hp s) 3 NF [(0, .ref v0), (1, .int v1), (2, .int v2), (3, .long v3), (5, .int v5)] [] (hp s) := by
  intro n
  induction n with
  | zero =>
    intro v5 hf
    have hf : none = some x := hf
    cases hf
  | succ n ih =>
    intro v5 hf
    exact t_X12_named_l3b v0 v1 v2 v3 v5 hv0 s _ ih  hf
def f_X12_named (v0 : Nat) (v1 : Int32) (v2 : Int32) (v3 : Int64) (s : HS) : Option Int32 :=
  f_X12_named_l3 v0 v1 v2 v3 s FU v1
set_option maxRecDepth 20000 in
set_option maxHeartbeats 2000000 in
theorem t_X12_named (v0 : Nat) (hv0 : aok 2 v0 = true) (v1 : Int32) (v2 : Int32) (v3 : Int64) (s : HS) {x : Int32} (hf : f_X12_named  v0 v1 v2 v3 s = some x) : Mt DDX12_named miX12_named [.ref v0, .int v1, .int v2, .long v3] NF (hp s) (some (.int x)) NF (hp s) := by
  refine Mt.of (by decide +kernel) (Nat.le_refl _) (Nat.le_of_ble_eq_true rfl) ?_
  show Ev DDX12_named miX12_named NF (some (.int x)) NF (hp s) 0 NF [(0, .ref v0), (1, .int v1), (2, .int v2), (3, .long v3)] [] (hp s)
  unfold f_X12_named at hf
  refine e_iload_n dX12_named_0 1 rfl rfl (pc2 := 1) rfl ?_
  refine e_istore dX12_named_1 (by decide) rfl (ls' := [(0, .ref v0), (1, .int v1), (2, .int v2), (3, .long v3), (5, .int v1)]) [1, 2, 3, 4, 0] rfl (pc2 := 3) rfl ?_
  refine t_X12_named_l3 v0 v1 v2 v3 hv0 s FU v1 hf
abbrev DDX12_coachNamed : Nat := 2
def f_X12_coachNamed  (s : HS) : Option Int32 :=
  bnd (f_X12_named 104 6 (s.1 103 10) (s.2.1 101 7) s) fun y2 => some y2
set_option maxRecDepth 20000 in
set_option maxHeartbeats 2000000 in
theorem t_X12_coachNamed  (s : HS) {x : Int32} (hf : f_X12_coachNamed  s = some x) : Mt DDX12_coachNamed miX12_coachNamed [.ref 101] NF (hp s) (some (.int x)) NF (hp s) := by
  refine Mt.of (by decide +kernel) (Nat.le_refl _) (Nat.le_of_ble_eq_true rfl) ?_
  show Ev DDX12_coachNamed miX12_coachNamed NF (some (.int x)) NF (hp s) 0 NF [(0, .ref 101)] [] (hp s)
  unfold f_X12_coachNamed at hf
  refine e_aload_n dX12_coachNamed_0 0 rfl rfl (pc2 := 1) rfl ?_
  refine e_getR (r := 104) fl_X12_16 dX12_coachNamed_1 so_101 (rs_101_11 s.2.2) (by decide) (pc2 := 4) rfl ?_
  refine e_bipush (x := 6) dX12_coachNamed_4 (by decide) (pc2 := 6) rfl ?_
  refine e_aload_n dX12_coachNamed_6 0 rfl rfl (pc2 := 7) rfl ?_
  refine e_getR (r := 103) fl_X12_13 dX12_coachNamed_7 so_101 (rs_101_10 s.2.2) (by decide) (pc2 := 10) rfl ?_
  refine e_bipush (x := 10) dX12_coachNamed_10 (by decide) (pc2 := 12) rfl ?_
  refine e_iald dX12_coachNamed_12 sa_103 (inb_v (by decide)) (pc2 := 13) rfl ?_
  refine e_aload_n dX12_coachNamed_13 0 rfl rfl (pc2 := 14) rfl ?_
  refine e_getL fl_X12_211 dX12_coachNamed_14 so_101 rfl (pc2 := 17) rfl ?_
  obtain ⟨y2, hy2, hf⟩ := bnd_s hf
  refine e_callSs (t_X12_named 104 (by decide) 6 (s.1 103 10) (s.2.1 101 7) s hy2) dX12_coachNamed_17 cs_X12_339 rfl (by decide) (by first | exact Nat.le_of_ble_eq_true rfl | simp [rva_cat, vc_i, vc_r, vc_l, vc_n]) nn0 rfl (pc2 := 20) rfl ?_
  cases hf
  exact e_iret rfl dX12_coachNamed_20
abbrev DDX12_thingNamed : Nat := 2
def f_X12_thingNamed (v1 : Int32) (s : HS) : Option Int32 :=
  gd (inb ((10 * v1) + 1) 20) (bnd (f_X12_named 105 (5 * v1) (s.1 103 ((10 * v1) + 1).toNatClampNeg) (s.2.1 101 7) s) fun y2 => some y2)
set_option maxRecDepth 20000 in
set_option maxHeartbeats 2000000 in
theorem t_X12_thingNamed (v1 : Int32) (s : HS) {x : Int32} (hf : f_X12_thingNamed  v1 s = some x) : Mt DDX12_thingNamed miX12_thingNamed [.ref 101, .int v1] NF (hp s) (some (.int x)) NF (hp s) := by
  refine Mt.of (by decide +kernel) (Nat.le_refl _) (Nat.le_of_ble_eq_true rfl) ?_
  show Ev DDX12_thingNamed miX12_thingNamed NF (some (.int x)) NF (hp s) 0 NF [(0, .ref 101), (1, .int v1)] [] (hp s)
  unfold f_X12_thingNamed at hf
  refine e_aload_n dX12_thingNamed_0 0 rfl rfl (pc2 := 1) rfl ?_
  refine e_getR (r := 105) fl_X12_20 dX12_thingNamed_1 so_101 (rs_101_12 s.2.2) (by decide) (pc2 := 4) rfl ?_
  refine e_iconst (x := 5) dX12_thingNamed_4 (by decide) (pc2 := 5) rfl ?_
  refine e_iload_n dX12_thingNamed_5 1 rfl rfl (pc2 := 6) rfl ?_
  refine e_imul dX12_thingNamed_6 (pc2 := 7) rfl ?_
  refine e_aload_n dX12_thingNamed_7 0 rfl rfl (pc2 := 8) rfl ?_
  refine e_getR (r := 103) fl_X12_13 dX12_thingNamed_8 so_101 (rs_101_10 s.2.2) (by decide) (pc2 := 11) rfl ?_
  refine e_bipush (x := 10) dX12_thingNamed_11 (by decide) (pc2 := 13) rfl ?_
  refine e_iload_n dX12_thingNamed_13 1 rfl rfl (pc2 := 14) rfl ?_
  refine e_imul dX12_thingNamed_14 (pc2 := 15) rfl ?_
  refine e_iconst (x := 1) dX12_thingNamed_15 (by decide) (pc2 := 16) rfl ?_
  refine e_iadd dX12_thingNamed_16 (pc2 := 17) rfl ?_
  obtain ⟨g1, hf⟩ := gd_some hf
  refine e_iald dX12_thingNamed_17 sa_103 (inb_v g1) (pc2 := 18) rfl ?_
  refine e_aload_n dX12_thingNamed_18 0 rfl rfl (pc2 := 19) rfl ?_
  refine e_getL fl_X12_211 dX12_thingNamed_19 so_101 rfl (pc2 := 22) rfl ?_
  obtain ⟨y2, hy2, hf⟩ := bnd_s hf
  refine e_callSs (t_X12_named 105 (by decide) (5 * v1) (s.1 103 ((10 * v1) + 1).toNatClampNeg) (s.2.1 101 7) s hy2) dX12_thingNamed_22 cs_X12_339 rfl (by decide) (by first | exact Nat.le_of_ble_eq_true rfl | simp [rva_cat, vc_i, vc_r, vc_l, vc_n]) nn0 rfl (pc2 := 25) rfl ?_
  cases hf
  exact e_iret rfl dX12_thingNamed_25
abbrev DDX12_buyerNamed : Nat := 2
def f_X12_buyerNamed (v1 : Int32) (s : HS) : Option Int32 :=
  gd (inb ((10 * v1) + 2) 20) (bnd (f_X12_named 106 (6 * v1) (s.1 103 ((10 * v1) + 2).toNatClampNeg) (s.2.1 101 7) s) fun y2 => some y2)
set_option maxRecDepth 20000 in
set_option maxHeartbeats 2000000 in
theorem t_X12_buyerNamed (v1 : Int32) (s : HS) {x : Int32} (hf : f_X12_buyerNamed  v1 s = some x) : Mt DDX12_buyerNamed miX12_buyerNamed [.ref 101, .int v1] NF (hp s) (some (.int x)) NF (hp s) := by
  refine Mt.of (by decide +kernel) (Nat.le_refl _) (Nat.le_of_ble_eq_true rfl) ?_
  show Ev DDX12_buyerNamed miX12_buyerNamed NF (some (.int x)) NF (hp s) 0 NF [(0, .ref 101), (1, .int v1)] [] (hp s)
  unfold f_X12_buyerNamed at hf
  refine e_aload_n dX12_buyerNamed_0 0 rfl rfl (pc2 := 1) rfl ?_
  refine e_getR (r := 106) fl_X12_23 dX12_buyerNamed_1 so_101 (rs_101_13 s.2.2) (by decide) (pc2 := 4) rfl ?_
  refine e_bipush (x := 6) dX12_buyerNamed_4 (by decide) (pc2 := 6) rfl ?_
  refine e_iload_n dX12_buyerNamed_6 1 rfl rfl (pc2 := 7) rfl ?_
  refine e_imul dX12_buyerNamed_7 (pc2 := 8) rfl ?_
  refine e_aload_n dX12_buyerNamed_8 0 rfl rfl (pc2 := 9) rfl ?_
  refine e_getR (r := 103) fl_X12_13 dX12_buyerNamed_9 so_101 (rs_101_10 s.2.2) (by decide) (pc2 := 12) rfl ?_
  refine e_bipush (x := 10) dX12_buyerNamed_12 (by decide) (pc2 := 14) rfl ?_
  refine e_iload_n dX12_buyerNamed_14 1 rfl rfl (pc2 := 15) rfl ?_
  refine e_imul dX12_buyerNamed_15 (pc2 := 16) rfl ?_
  refine e_iconst (x := 2) dX12_buyerNamed_16 (by decide) (pc2 := 17) rfl ?_
  refine e_iadd dX12_buyerNamed_17 (pc2 := 18) rfl ?_
  obtain ⟨g1, hf⟩ := gd_some hf
  refine e_iald dX12_buyerNamed_18 sa_103 (inb_v g1) (pc2 := 19) rfl ?_
  refine e_aload_n dX12_buyerNamed_19 0 rfl rfl (pc2 := 20) rfl ?_
  refine e_getL fl_X12_211 dX12_buyerNamed_20 so_101 rfl (pc2 := 23) rfl ?_
  obtain ⟨y2, hy2, hf⟩ := bnd_s hf
  refine e_callSs (t_X12_named 106 (by decide) (6 * v1) (s.1 103 ((10 * v1) + 2).toNatClampNeg) (s.2.1 101 7) s hy2) dX12_buyerNamed_23 cs_X12_339 rfl (by decide) (by first | exact Nat.le_of_ble_eq_true rfl | simp [rva_cat, vc_i, vc_r, vc_l, vc_n]) nn0 rfl (pc2 := 26) rfl ?_
  cases hf
  exact e_iret rfl dX12_buyerNamed_26
abbrev DDX12_needsNumber : Nat := 3
def f_X12_needsNumber (v1 : Int32) (v2 : Int32) (s : HS) : Option (Int32 × HS) :=
  (if (s.1 101 6) = 2 then (if (f_X12_within (s.1 101 8) v1 v2 s) = 0 then bnd2 (f_X12_fails 4 s) fun y6 s7 => gd (isb y6) (some (y6, s7)) else ltb (sI s 101 44 (s.1 101 8)) fun s3 => bnd (f_X12_nextToken s3) fun s5 => some (1, s5)) else bnd2 (f_X12_fails 1 s) fun y9 s10 => gd (isb y9) (some (y9, s10)))
set_option maxRecDepth 20000 in
set_option maxHeartbeats 2000000 in
theorem t_X12_needsNumber (v1 : Int32) (v2 : Int32) (s : HS) {x : Int32} {t : HS} (hf : f_X12_needsNumber  v1 v2 s = some (x, t)) : Mt DDX12_needsNumber miX12_needsNumber [.ref 101, .int v1, .int v2] NF (hp s) (some (.int x)) NF (hp t) := by
  refine Mt.of (by decide +kernel) (Nat.le_refl _) (Nat.le_of_ble_eq_true rfl) ?_
  show Ev DDX12_needsNumber miX12_needsNumber NF (some (.int x)) NF (hp t) 0 NF [(0, .ref 101), (1, .int v1), (2, .int v2)] [] (hp s)
  unfold f_X12_needsNumber at hf
  refine e_aload_n dX12_needsNumber_0 0 rfl rfl (pc2 := 1) rfl ?_
  refine e_getI fl_X12_218 dX12_needsNumber_1 so_101 (by decide) (pc2 := 4) rfl ?_
  refine e_iconst (x := 2) dX12_needsNumber_4 (by decide) (pc2 := 5) rfl ?_
  refine e_icmp_eq (tgt := 14) dX12_needsNumber_5 (by decide) (pc2 := 8) rfl (fun c1 => ?_) (fun c1 => ?_)
  · have hf := if_t c1 hf
    refine e_aload_n dX12_needsNumber_14 0 rfl rfl (pc2 := 15) rfl ?_
    refine e_getI fl_X12_215 dX12_needsNumber_15 so_101 (by decide) (pc2 := 18) rfl ?_
    refine e_iload_n dX12_needsNumber_18 1 rfl rfl (pc2 := 19) rfl ?_
    refine e_iload_n dX12_needsNumber_19 2 rfl rfl (pc2 := 20) rfl ?_
    refine e_callSs (t_X12_within (s.1 101 8) v1 v2 s rfl) dX12_needsNumber_20 cs_X12_343 rfl (by decide) (by first | exact Nat.le_of_ble_eq_true rfl | simp [rva_cat, vc_i, vc_r, vc_l, vc_n]) nn0 rfl (pc2 := 23) rfl ?_
    refine e_if_ne (tgt := 32) dX12_needsNumber_23 (by decide) (pc2 := 26) rfl (fun c2 => ?_) (fun c2 => ?_)
    · have hf := if_f c2 hf
      refine e_aload_n dX12_needsNumber_32 0 rfl rfl (pc2 := 33) rfl ?_
      refine e_aload_n dX12_needsNumber_33 0 rfl rfl (pc2 := 34) rfl ?_
      refine e_getI fl_X12_215 dX12_needsNumber_34 so_101 (by decide) (pc2 := 37) rfl ?_
      obtain ⟨s3, es3, hf⟩ := ltb_s hf
      refine e_putI fl_X12_347 dX12_needsNumber_37 so_101 fn_11_44 (h2 := hp s3) (by rw [es3]; rfl) (pc2 := 40) rfl ?_
      refine e_aload_n dX12_needsNumber_40 0 rfl rfl (pc2 := 41) rfl ?_
      obtain ⟨s5, hy4, hf⟩ := bnd_s hf
      refine e_callVn (t_X12_nextToken  s3 hy4) dX12_needsNumber_41 cv_X12_263 rfl so_101 rc_11 (by decide) (by first | exact Nat.le_of_ble_eq_true rfl | simp [rva_cat, vc_i, vc_r, vc_l, vc_n]) nn0 rfl (pc2 := 44) rfl ?_
      refine e_iconst (x := 1) dX12_needsNumber_44 (by decide) (pc2 := 45) rfl ?_
      cases hf
      exact e_zret (by decide) rfl dX12_needsNumber_45
    · have hf := if_t c2 hf
      refine e_aload_n dX12_needsNumber_26 0 rfl rfl (pc2 := 27) rfl ?_
      refine e_iconst (x := 4) dX12_needsNumber_27 (by decide) (pc2 := 28) rfl ?_
      obtain ⟨y6, s7, hy6, hf⟩ := bnd2_s hf
      refine e_callVs (t_X12_fails 4 s hy6) dX12_needsNumber_28 cv_X12_257 rfl so_101 rc_11 (by decide) (by first | exact Nat.le_of_ble_eq_true rfl | simp [rva_cat, vc_i, vc_r, vc_l, vc_n]) nn0 rfl (pc2 := 31) rfl ?_
      obtain ⟨g8, hf⟩ := gd_some hf
      cases hf
      exact e_zret (isb_n g8) rfl dX12_needsNumber_31
  · have hf := if_f c1 hf
    refine e_aload_n dX12_needsNumber_8 0 rfl rfl (pc2 := 9) rfl ?_
    refine e_iconst (x := 1) dX12_needsNumber_9 (by decide) (pc2 := 10) rfl ?_
    obtain ⟨y9, s10, hy9, hf⟩ := bnd2_s hf
    refine e_callVs (t_X12_fails 1 s hy9) dX12_needsNumber_10 cv_X12_257 rfl so_101 rc_11 (by decide) (by first | exact Nat.le_of_ble_eq_true rfl | simp [rva_cat, vc_i, vc_r, vc_l, vc_n]) nn0 rfl (pc2 := 13) rfl ?_
    obtain ⟨g11, hf⟩ := gd_some hf
    cases hf
    exact e_zret (isb_n g11) rfl dX12_needsNumber_13
abbrev DDX12_needsWord : Nat := 3
def f_X12_needsWord (v1 : Int64) (s : HS) : Option (Int32 × HS) :=
  (if (f_X12_isWord v1 s) = 0 then bnd2 (f_X12_fails 1 s) fun y4 s5 => gd (isb y4) (some (y4, s5)) else bnd (f_X12_nextToken s) fun s3 => some (1, s3))
set_option maxRecDepth 20000 in
set_option maxHeartbeats 2000000 in
theorem t_X12_needsWord (v1 : Int64) (s : HS) {x : Int32} {t : HS} (hf : f_X12_needsWord  v1 s = some (x, t)) : Mt DDX12_needsWord miX12_needsWord [.ref 101, .long v1] NF (hp s) (some (.int x)) NF (hp t) := by
  refine Mt.of (by decide +kernel) (Nat.le_refl _) (Nat.le_of_ble_eq_true rfl) ?_
  show Ev DDX12_needsWord miX12_needsWord NF (some (.int x)) NF (hp t) 0 NF [(0, .ref 101), (1, .long v1)] [] (hp s)
  unfold f_X12_needsWord at hf
  refine e_aload_n dX12_needsWord_0 0 rfl rfl (pc2 := 1) rfl ?_
  refine e_lload_n dX12_needsWord_1 1 rfl rfl (pc2 := 2) rfl ?_
  refine e_callVs (t_X12_isWord v1 s rfl) dX12_needsWord_2 cv_X12_249 rfl so_101 rc_11 (by decide) (by first | exact Nat.le_of_ble_eq_true rfl | simp [rva_cat, vc_i, vc_r, vc_l, vc_n]) nn0 rfl (pc2 := 5) rfl ?_
  refine e_if_ne (tgt := 14) dX12_needsWord_5 (by decide) (pc2 := 8) rfl (fun c1 => ?_) (fun c1 => ?_)
  · have hf := if_f c1 hf
    refine e_aload_n dX12_needsWord_14 0 rfl rfl (pc2 := 15) rfl ?_
    obtain ⟨s3, hy2, hf⟩ := bnd_s hf
    refine e_callVn (t_X12_nextToken  s hy2) dX12_needsWord_15 cv_X12_263 rfl so_101 rc_11 (by decide) (by first | exact Nat.le_of_ble_eq_true rfl | simp [rva_cat, vc_i, vc_r, vc_l, vc_n]) nn0 rfl (pc2 := 18) rfl ?_
    refine e_iconst (x := 1) dX12_needsWord_18 (by decide) (pc2 := 19) rfl ?_
    cases hf
    exact e_zret (by decide) rfl dX12_needsWord_19
  · have hf := if_t c1 hf
    refine e_aload_n dX12_needsWord_8 0 rfl rfl (pc2 := 9) rfl ?_
    refine e_iconst (x := 1) dX12_needsWord_9 (by decide) (pc2 := 10) rfl ?_
    obtain ⟨y4, s5, hy4, hf⟩ := bnd2_s hf
    refine e_callVs (t_X12_fails 1 s hy4) dX12_needsWord_10 cv_X12_257 rfl so_101 rc_11 (by decide) (by first | exact Nat.le_of_ble_eq_true rfl | simp [rva_cat, vc_i, vc_r, vc_l, vc_n]) nn0 rfl (pc2 := 13) rfl ?_
    obtain ⟨g6, hf⟩ := gd_some hf
    cases hf
    exact e_zret (isb_n g6) rfl dX12_needsWord_13
abbrev DDX12_needsBoth : Nat := 4
def f_X12_needsBoth (v1 : Int64) (v3 : Int32) (v4 : Int32) (s : HS) : Option (Int32 × HS) :=
  bnd2 (f_X12_needsWord v1 s) fun y1 s2 => (if y1 = 0 then some (0, s2) else bnd2 (f_X12_needsNumber v3 v4 s2) fun y4 s5 => (if y4 = 0 then some (0, s5) else some (1, s5)))
set_option maxRecDepth 20000 in
set_option maxHeartbeats 2000000 in
theorem t_X12_needsBoth (v1 : Int64) (v3 : Int32) (v4 : Int32) (s : HS) {x : Int32} {t : HS} (hf : f_X12_needsBoth  v1 v3 v4 s = some (x, t)) : Mt DDX12_needsBoth miX12_needsBoth [.ref 101, .long v1, .int v3, .int v4] NF (hp s) (some (.int x)) NF (hp t) := by
  refine Mt.of (by decide +kernel) (Nat.le_refl _) (Nat.le_of_ble_eq_true rfl) ?_
  show Ev DDX12_needsBoth miX12_needsBoth NF (some (.int x)) NF (hp t) 0 NF [(0, .ref 101), (1, .long v1), (3, .int v3), (4, .int v4)] [] (hp s)
  unfold f_X12_needsBoth at hf
  refine e_aload_n dX12_needsBoth_0 0 rfl rfl (pc2 := 1) rfl ?_
  refine e_lload_n dX12_needsBoth_1 1 rfl rfl (pc2 := 2) rfl ?_
  obtain ⟨y1, s2, hy1, hf⟩ := bnd2_s hf
  refine e_callVs (t_X12_needsWord v1 s hy1) dX12_needsBoth_2 cv_X12_350 rfl so_101 rc_11 (by decide) (by first | exact Nat.le_of_ble_eq_true rfl | simp [rva_cat, vc_i, vc_r, vc_l, vc_n]) nn0 rfl (pc2 := 5) rfl ?_
  refine e_if_eq (tgt := 22) dX12_needsBoth_5 (by decide) (pc2 := 8) rfl (fun c3 => ?_) (fun c3 => ?_)
  · have hf := if_t c3 hf
    refine e_iconst (x := 0) dX12_needsBoth_22 (by decide) (pc2 := 23) rfl ?_
    cases hf
    exact e_zret (by decide) rfl dX12_needsBoth_23
  · have hf := if_f c3 hf
    refine e_aload_n dX12_needsBoth_8 0 rfl rfl (pc2 := 9) rfl ?_
    refine e_iload_n dX12_needsBoth_9 2 rfl rfl (pc2 := 10) rfl ?_
    refine e_iload dX12_needsBoth_10 3 rfl (pc2 := 12) rfl ?_
    obtain ⟨y4, s5, hy4, hf⟩ := bnd2_s hf
    refine e_callVs (t_X12_needsNumber v3 v4 s2 hy4) dX12_needsBoth_12 cv_X12_353 rfl so_101 rc_11 (by decide) (by first | exact Nat.le_of_ble_eq_true rfl | simp [rva_cat, vc_i, vc_r, vc_l, vc_n]) nn0 rfl (pc2 := 15) rfl ?_
    refine e_if_eq (tgt := 22) dX12_needsBoth_15 (by decide) (pc2 := 18) rfl (fun c6 => ?_) (fun c6 => ?_)
    · have hf := if_t c6 hf
      refine e_iconst (x := 0) dX12_needsBoth_22 (by decide) (pc2 := 23) rfl ?_
      cases hf
      exact e_zret (by decide) rfl dX12_needsBoth_23
    · have hf := if_f c6 hf
      refine e_iconst (x := 1) dX12_needsBoth_18 (by decide) (pc2 := 19) rfl ?_
      refine e_goto (tgt := 23) dX12_needsBoth_19 (by decide) ?_
      cases hf
      exact e_zret (by decide) rfl dX12_needsBoth_23
abbrev DDX12_closes : Nat := 3
def f_X12_closes  (s : HS) : Option (Int32 × HS) :=
  bnd (f_X12_isSign 59 s) fun y1 => (if y1 = 0 then bnd2 (f_X12_fails 1 s) fun y5 s6 => gd (isb y5) (some (y5, s6)) else bnd (f_X12_nextToken s) fun s4 => some (1, s4))
set_option maxRecDepth 20000 in
set_option maxHeartbeats 2000000 in
theorem t_X12_closes  (s : HS) {x : Int32} {t : HS} (hf : f_X12_closes  s = some (x, t)) : Mt DDX12_closes miX12_closes [.ref 101] NF (hp s) (some (.int x)) NF (hp t) := by
  refine Mt.of (by decide +kernel) (Nat.le_refl _) (Nat.le_of_ble_eq_true rfl) ?_
  show Ev DDX12_closes miX12_closes NF (some (.int x)) NF (hp t) 0 NF [(0, .ref 101)] [] (hp s)
  unfold f_X12_closes at hf
  refine e_aload_n dX12_closes_0 0 rfl rfl (pc2 := 1) rfl ?_
  refine e_bipush (x := 59) dX12_closes_1 (by decide) (pc2 := 3) rfl ?_
  obtain ⟨y1, hy1, hf⟩ := bnd_s hf
  refine e_callVs (t_X12_isSign 59 s hy1) dX12_closes_3 cv_X12_253 rfl so_101 rc_11 (by decide) (by first | exact Nat.le_of_ble_eq_true rfl | simp [rva_cat, vc_i, vc_r, vc_l, vc_n]) nn0 rfl (pc2 := 6) rfl ?_
  refine e_if_ne (tgt := 15) dX12_closes_6 (by decide) (pc2 := 9) rfl (fun c2 => ?_) (fun c2 => ?_)
  · have hf := if_f c2 hf
    refine e_aload_n dX12_closes_15 0 rfl rfl (pc2 := 16) rfl ?_
    obtain ⟨s4, hy3, hf⟩ := bnd_s hf
    refine e_callVn (t_X12_nextToken  s hy3) dX12_closes_16 cv_X12_263 rfl so_101 rc_11 (by decide) (by first | exact Nat.le_of_ble_eq_true rfl | simp [rva_cat, vc_i, vc_r, vc_l, vc_n]) nn0 rfl (pc2 := 19) rfl ?_
    refine e_iconst (x := 1) dX12_closes_19 (by decide) (pc2 := 20) rfl ?_
    cases hf
    exact e_zret (by decide) rfl dX12_closes_20
  · have hf := if_t c2 hf
    refine e_aload_n dX12_closes_9 0 rfl rfl (pc2 := 10) rfl ?_
    refine e_iconst (x := 1) dX12_closes_10 (by decide) (pc2 := 11) rfl ?_
    obtain ⟨y5, s6, hy5, hf⟩ := bnd2_s hf
    refine e_callVs (t_X12_fails 1 s hy5) dX12_closes_11 cv_X12_257 rfl so_101 rc_11 (by decide) (by first | exact Nat.le_of_ble_eq_true rfl | simp [rva_cat, vc_i, vc_r, vc_l, vc_n]) nn0 rfl (pc2 := 14) rfl ?_
    obtain ⟨g7, hf⟩ := gd_some hf
    cases hf
    exact e_zret (isb_n g7) rfl dX12_closes_14
abbrev DDX12_isNew : Nat := 3
def f_X12_isNew  (s : HS) : Option (Int32 × HS) :=
  (if (f_X12_isKept s) = 0 then bnd (f_X12_coachNamed s) fun y2 => (if 0 ≤ y2 then bnd2 (f_X12_fails 3 s) fun y4 s5 => (if y4 = 0 then some (0, s5) else some (1, s5)) else bnd (f_X12_thingNamed 1 s) fun y7 => (if 0 ≤ y7 then bnd2 (f_X12_fails 3 s) fun y9 s10 => (if y9 = 0 then some (0, s10) else some (1, s10)) else bnd (f_X12_buyerNamed 1 s) fun y12 => (if y12 < 0 then some (1, s) else bnd2 (f_X12_fails 3 s) fun y14 s15 => (if y14 = 0 then some (0, s15) else some (1, s15))))) else bnd2 (f_X12_fails 1 s) fun y17 s18 => gd (isb y17) (some (y17, s18)))
set_option maxRecDepth 20000 in
set_option maxHeartbeats 2000000 in
theorem t_X12_isNew  (s : HS) {x : Int32} {t : HS} (hf : f_X12_isNew  s = some (x, t)) : Mt DDX12_isNew miX12_isNew [.ref 101] NF (hp s) (some (.int x)) NF (hp t) := by
  refine Mt.of (by decide +kernel) (Nat.le_refl _) (Nat.le_of_ble_eq_true rfl) ?_
  show Ev DDX12_isNew miX12_isNew NF (some (.int x)) NF (hp t) 0 NF [(0, .ref 101)] [] (hp s)
  unfold f_X12_isNew at hf
  refine e_aload_n dX12_isNew_0 0 rfl rfl (pc2 := 1) rfl ?_
  refine e_callVs (t_X12_isKept  s rfl) dX12_isNew_1 cv_X12_357 rfl so_101 rc_11 (by decide) (by first | exact Nat.le_of_ble_eq_true rfl | simp [rva_cat, vc_i, vc_r, vc_l, vc_n]) nn0 rfl (pc2 := 4) rfl ?_
  refine e_if_eq (tgt := 13) dX12_isNew_4 (by decide) (pc2 := 7) rfl (fun c1 => ?_) (fun c1 => ?_)
  · have hf := if_t c1 hf
    refine e_aload_n dX12_isNew_13 0 rfl rfl (pc2 := 14) rfl ?_
    obtain ⟨y2, hy2, hf⟩ := bnd_s hf
    refine e_callVs (t_X12_coachNamed  s hy2) dX12_isNew_14 cv_X12_361 rfl so_101 rc_11 (by decide) (by first | exact Nat.le_of_ble_eq_true rfl | simp [rva_cat, vc_i, vc_r, vc_l, vc_n]) nn0 rfl (pc2 := 17) rfl ?_
    refine e_if_ge (tgt := 36) dX12_isNew_17 (by decide) (pc2 := 20) rfl (fun c3 => ?_) (fun c3 => ?_)
    · have hf := if_t c3 hf
      refine e_aload_n dX12_isNew_36 0 rfl rfl (pc2 := 37) rfl ?_
      refine e_iconst (x := 3) dX12_isNew_37 (by decide) (pc2 := 38) rfl ?_
      obtain ⟨y4, s5, hy4, hf⟩ := bnd2_s hf
      refine e_callVs (t_X12_fails 3 s hy4) dX12_isNew_38 cv_X12_257 rfl so_101 rc_11 (by decide) (by first | exact Nat.le_of_ble_eq_true rfl | simp [rva_cat, vc_i, vc_r, vc_l, vc_n]) nn0 rfl (pc2 := 41) rfl ?_
      refine e_if_eq (tgt := 48) dX12_isNew_41 (by decide) (pc2 := 44) rfl (fun c6 => ?_) (fun c6 => ?_)
      · have hf := if_t c6 hf
        refine e_iconst (x := 0) dX12_isNew_48 (by decide) (pc2 := 49) rfl ?_
        cases hf
        exact e_zret (by decide) rfl dX12_isNew_49
      · have hf := if_f c6 hf
        refine e_iconst (x := 1) dX12_isNew_44 (by decide) (pc2 := 45) rfl ?_
        refine e_goto (tgt := 49) dX12_isNew_45 (by decide) ?_
        cases hf
        exact e_zret (by decide) rfl dX12_isNew_49
    · have hf := if_f c3 hf
      refine e_aload_n dX12_isNew_20 0 rfl rfl (pc2 := 21) rfl ?_
      refine e_iconst (x := 1) dX12_isNew_21 (by decide) (pc2 := 22) rfl ?_
      obtain ⟨y7, hy7, hf⟩ := bnd_s hf
      refine e_callVs (t_X12_thingNamed 1 s hy7) dX12_isNew_22 cv_X12_364 rfl so_101 rc_11 (by decide) (by first | exact Nat.le_of_ble_eq_true rfl | simp [rva_cat, vc_i, vc_r, vc_l, vc_n]) nn0 rfl (pc2 := 25) rfl ?_
      refine e_if_ge (tgt := 36) dX12_isNew_25 (by decide) (pc2 := 28) rfl (fun c8 => ?_) (fun c8 => ?_)
      · have hf := if_t c8 hf
        refine e_aload_n dX12_isNew_36 0 rfl rfl (pc2 := 37) rfl ?_
        refine e_iconst (x := 3) dX12_isNew_37 (by decide) (pc2 := 38) rfl ?_
        obtain ⟨y9, s10, hy9, hf⟩ := bnd2_s hf
        refine e_callVs (t_X12_fails 3 s hy9) dX12_isNew_38 cv_X12_257 rfl so_101 rc_11 (by decide) (by first | exact Nat.le_of_ble_eq_true rfl | simp [rva_cat, vc_i, vc_r, vc_l, vc_n]) nn0 rfl (pc2 := 41) rfl ?_
        refine e_if_eq (tgt := 48) dX12_isNew_41 (by decide) (pc2 := 44) rfl (fun c11 => ?_) (fun c11 => ?_)
        · have hf := if_t c11 hf
          refine e_iconst (x := 0) dX12_isNew_48 (by decide) (pc2 := 49) rfl ?_
          cases hf
          exact e_zret (by decide) rfl dX12_isNew_49
        · have hf := if_f c11 hf
          refine e_iconst (x := 1) dX12_isNew_44 (by decide) (pc2 := 45) rfl ?_
          refine e_goto (tgt := 49) dX12_isNew_45 (by decide) ?_
          cases hf
          exact e_zret (by decide) rfl dX12_isNew_49
      · have hf := if_f c8 hf
        refine e_aload_n dX12_isNew_28 0 rfl rfl (pc2 := 29) rfl ?_
        refine e_iconst (x := 1) dX12_isNew_29 (by decide) (pc2 := 30) rfl ?_
        obtain ⟨y12, hy12, hf⟩ := bnd_s hf
        refine e_callVs (t_X12_buyerNamed 1 s hy12) dX12_isNew_30 cv_X12_367 rfl so_101 rc_11 (by decide) (by first | exact Nat.le_of_ble_eq_true rfl | simp [rva_cat, vc_i, vc_r, vc_l, vc_n]) nn0 rfl (pc2 := 33) rfl ?_
        refine e_if_lt (tgt := 44) dX12_isNew_33 (by decide) (pc2 := 36) rfl (fun c13 => ?_) (fun c13 => ?_)
        · have hf := if_t c13 hf
          refine e_iconst (x := 1) dX12_isNew_44 (by decide) (pc2 := 45) rfl ?_
          refine e_goto (tgt := 49) dX12_isNew_45 (by decide) ?_
          cases hf
          exact e_zret (by decide) rfl dX12_isNew_49
        · have hf := if_f c13 hf
          refine e_aload_n dX12_isNew_36 0 rfl rfl (pc2 := 37) rfl ?_
          refine e_iconst (x := 3) dX12_isNew_37 (by decide) (pc2 := 38) rfl ?_
          obtain ⟨y14, s15, hy14, hf⟩ := bnd2_s hf
          refine e_callVs (t_X12_fails 3 s hy14) dX12_isNew_38 cv_X12_257 rfl so_101 rc_11 (by decide) (by first | exact Nat.le_of_ble_eq_true rfl | simp [rva_cat, vc_i, vc_r, vc_l, vc_n]) nn0 rfl (pc2 := 41) rfl ?_
          refine e_if_eq (tgt := 48) dX12_isNew_41 (by decide) (pc2 := 44) rfl (fun c16 => ?_) (fun c16 => ?_)
          · have hf := if_t c16 hf
            refine e_iconst (x := 0) dX12_isNew_48 (by decide) (pc2 := 49) rfl ?_
            cases hf
            exact e_zret (by decide) rfl dX12_isNew_49
          · have hf := if_f c16 hf
            refine e_iconst (x := 1) dX12_isNew_44 (by decide) (pc2 := 45) rfl ?_
            refine e_goto (tgt := 49) dX12_isNew_45 (by decide) ?_
            cases hf
            exact e_zret (by decide) rfl dX12_isNew_49
  · have hf := if_f c1 hf
    refine e_aload_n dX12_isNew_7 0 rfl rfl (pc2 := 8) rfl ?_
    refine e_iconst (x := 1) dX12_isNew_8 (by decide) (pc2 := 9) rfl ?_
    obtain ⟨y17, s18, hy17, hf⟩ := bnd2_s hf
    refine e_callVs (t_X12_fails 1 s hy17) dX12_isNew_9 cv_X12_257 rfl so_101 rc_11 (by decide) (by first | exact Nat.le_of_ble_eq_true rfl | simp [rva_cat, vc_i, vc_r, vc_l, vc_n]) nn0 rfl (pc2 := 12) rfl ?_
    obtain ⟨g19, hf⟩ := gd_some hf
    cases hf
    exact e_zret (isb_n g19) rfl dX12_isNew_12
abbrev DDX12_needsThing : Nat := 3
def f_X12_needsThing (v1 : Int32) (s : HS) : Option (Int32 × HS) :=
  (if (f_X12_isKept s) = 0 then bnd (f_X12_thingNamed v1 s) fun y2 => ltb (sI s 101 44 y2) fun s3 => (if 0 ≤ (s3.1 101 44) then some (1, s3) else bnd2 (f_X12_fails 2 s3) fun y5 s6 => (if y5 = 0 then some (0, s6) else some (1, s6))) else bnd2 (f_X12_fails 1 s) fun y8 s9 => gd (isb y8) (some (y8, s9)))
set_option maxRecDepth 20000 in
set_option maxHeartbeats 2000000 in
theorem t_X12_needsThing (v1 : Int32) (s : HS) {x : Int32} {t : HS} (hf : f_X12_needsThing  v1 s = some (x, t)) : Mt DDX12_needsThing miX12_needsThing [.ref 101, .int v1] NF (hp s) (some (.int x)) NF (hp t) := by
  refine Mt.of (by decide +kernel) (Nat.le_refl _) (Nat.le_of_ble_eq_true rfl) ?_
  show Ev DDX12_needsThing miX12_needsThing NF (some (.int x)) NF (hp t) 0 NF [(0, .ref 101), (1, .int v1)] [] (hp s)
  unfold f_X12_needsThing at hf
  refine e_aload_n dX12_needsThing_0 0 rfl rfl (pc2 := 1) rfl ?_
  refine e_callVs (t_X12_isKept  s rfl) dX12_needsThing_1 cv_X12_357 rfl so_101 rc_11 (by decide) (by first | exact Nat.le_of_ble_eq_true rfl | simp [rva_cat, vc_i, vc_r, vc_l, vc_n]) nn0 rfl (pc2 := 4) rfl ?_
  refine e_if_eq (tgt := 13) dX12_needsThing_4 (by decide) (pc2 := 7) rfl (fun c1 => ?_) (fun c1 => ?_)
  · have hf := if_t c1 hf
    refine e_aload_n dX12_needsThing_13 0 rfl rfl (pc2 := 14) rfl ?_
    refine e_aload_n dX12_needsThing_14 0 rfl rfl (pc2 := 15) rfl ?_
    refine e_iload_n dX12_needsThing_15 1 rfl rfl (pc2 := 16) rfl ?_
    obtain ⟨y2, hy2, hf⟩ := bnd_s hf
    refine e_callVs (t_X12_thingNamed v1 s hy2) dX12_needsThing_16 cv_X12_364 rfl so_101 rc_11 (by decide) (by first | exact Nat.le_of_ble_eq_true rfl | simp [rva_cat, vc_i, vc_r, vc_l, vc_n]) nn0 rfl (pc2 := 19) rfl ?_
    obtain ⟨s3, es3, hf⟩ := ltb_s hf
    refine e_putI fl_X12_347 dX12_needsThing_19 so_101 fn_11_44 (h2 := hp s3) (by rw [es3]; rfl) (pc2 := 22) rfl ?_
    refine e_aload_n dX12_needsThing_22 0 rfl rfl (pc2 := 23) rfl ?_
    refine e_getI fl_X12_347 dX12_needsThing_23 so_101 (by decide) (pc2 := 26) rfl ?_
    refine e_if_ge (tgt := 37) dX12_needsThing_26 (by decide) (pc2 := 29) rfl (fun c4 => ?_) (fun c4 => ?_)
    · have hf := if_t c4 hf
      refine e_iconst (x := 1) dX12_needsThing_37 (by decide) (pc2 := 38) rfl ?_
      refine e_goto (tgt := 42) dX12_needsThing_38 (by decide) ?_
      cases hf
      exact e_zret (by decide) rfl dX12_needsThing_42
    · have hf := if_f c4 hf
      refine e_aload_n dX12_needsThing_29 0 rfl rfl (pc2 := 30) rfl ?_
      refine e_iconst (x := 2) dX12_needsThing_30 (by decide) (pc2 := 31) rfl ?_
      obtain ⟨y5, s6, hy5, hf⟩ := bnd2_s hf
      refine e_callVs (t_X12_fails 2 s3 hy5) dX12_needsThing_31 cv_X12_257 rfl so_101 rc_11 (by decide) (by first | exact Nat.le_of_ble_eq_true rfl | simp [rva_cat, vc_i, vc_r, vc_l, vc_n]) nn0 rfl (pc2 := 34) rfl ?_
      refine e_if_eq (tgt := 41) dX12_needsThing_34 (by decide) (pc2 := 37) rfl (fun c7 => ?_) (fun c7 => ?_)
      · have hf := if_t c7 hf
        refine e_iconst (x := 0) dX12_needsThing_41 (by decide) (pc2 := 42) rfl ?_
        cases hf
        exact e_zret (by decide) rfl dX12_needsThing_42
      · have hf := if_f c7 hf
        refine e_iconst (x := 1) dX12_needsThing_37 (by decide) (pc2 := 38) rfl ?_
        refine e_goto (tgt := 42) dX12_needsThing_38 (by decide) ?_
        cases hf
        exact e_zret (by decide) rfl dX12_needsThing_42
  · have hf := if_f c1 hf
    refine e_aload_n dX12_needsThing_7 0 rfl rfl (pc2 := 8) rfl ?_
    refine e_iconst (x := 1) dX12_needsThing_8 (by decide) (pc2 := 9) rfl ?_
    obtain ⟨y8, s9, hy8, hf⟩ := bnd2_s hf
    refine e_callVs (t_X12_fails 1 s hy8) dX12_needsThing_9 cv_X12_257 rfl so_101 rc_11 (by decide) (by first | exact Nat.le_of_ble_eq_true rfl | simp [rva_cat, vc_i, vc_r, vc_l, vc_n]) nn0 rfl (pc2 := 12) rfl ?_
    obtain ⟨g10, hf⟩ := gd_some hf
    cases hf
    exact e_zret (isb_n g10) rfl dX12_needsThing_12
abbrev DDX12_isTwice : Nat := 1
def f_X12_isTwice (v1 : Int32) (s : HS) : Option (Int32 × HS) :=
  (if (((s.1 101 31) >>> (v1 &&& 31)) &&& (1 : Int32)) = 1 then some (1, s) else ltb (sI s 101 31 ((s.1 101 31) ||| ((1 : Int32) <<< (v1 &&& 31)))) fun s2 => some (0, s2))
set_option maxRecDepth 20000 in
set_option maxHeartbeats 2000000 in
theorem t_X12_isTwice (v1 : Int32) (s : HS) {x : Int32} {t : HS} (hf : f_X12_isTwice  v1 s = some (x, t)) : Mt DDX12_isTwice miX12_isTwice [.ref 101, .int v1] NF (hp s) (some (.int x)) NF (hp t) := by
  refine Mt.of (by decide +kernel) (Nat.le_refl _) (Nat.le_of_ble_eq_true rfl) ?_
  show Ev DDX12_isTwice miX12_isTwice NF (some (.int x)) NF (hp t) 0 NF [(0, .ref 101), (1, .int v1)] [] (hp s)
  unfold f_X12_isTwice at hf
  refine e_aload_n dX12_isTwice_0 0 rfl rfl (pc2 := 1) rfl ?_
  refine e_getI fl_X12_370 dX12_isTwice_1 so_101 (by decide) (pc2 := 4) rfl ?_
  refine e_iload_n dX12_isTwice_4 1 rfl rfl (pc2 := 5) rfl ?_
  refine e_ishr dX12_isTwice_5 (pc2 := 6) rfl ?_
  refine e_iconst (x := 1) dX12_isTwice_6 (by decide) (pc2 := 7) rfl ?_
  refine e_iand dX12_isTwice_7 (pc2 := 8) rfl ?_
  refine e_iconst (x := 1) dX12_isTwice_8 (by decide) (pc2 := 9) rfl ?_
  refine e_icmp_ne (tgt := 14) dX12_isTwice_9 (by decide) (pc2 := 12) rfl (fun c1 => ?_) (fun c1 => ?_)
  · have hf := if_f c1 hf
    refine e_aload_n dX12_isTwice_14 0 rfl rfl (pc2 := 15) rfl ?_
    refine e_dup dX12_isTwice_15 rfl (pc2 := 16) rfl ?_
    refine e_getI fl_X12_370 dX12_isTwice_16 so_101 (by decide) (pc2 := 19) rfl ?_
    refine e_iconst (x := 1) dX12_isTwice_19 (by decide) (pc2 := 20) rfl ?_
    refine e_iload_n dX12_isTwice_20 1 rfl rfl (pc2 := 21) rfl ?_
    refine e_ishl dX12_isTwice_21 (pc2 := 22) rfl ?_
    refine e_ior dX12_isTwice_22 (pc2 := 23) rfl ?_
    obtain ⟨s2, es2, hf⟩ := ltb_s hf
    refine e_putI fl_X12_370 dX12_isTwice_23 so_101 fn_11_31 (h2 := hp s2) (by rw [es2]; rfl) (pc2 := 26) rfl ?_
    refine e_iconst (x := 0) dX12_isTwice_26 (by decide) (pc2 := 27) rfl ?_
    cases hf
    exact e_zret (by decide) rfl dX12_isTwice_27
  · have hf := if_t c1 hf
    refine e_iconst (x := 1) dX12_isTwice_12 (by decide) (pc2 := 13) rfl ?_
    cases hf
    exact e_zret (by decide) rfl dX12_isTwice_13
abbrev DDX12_readsStop : Nat := 5
def f_X12_readsStop  (s : HS) : Option (Int32 × HS) :=
  bnd2 (f_X12_isTwice 0 s) fun y1 s2 => (if y1 = 0 then bnd (f_X12_nextToken s2) fun s5 => bnd2 (f_X12_needsNumber 60 900 s5) fun y6 s7 => (if y6 = 0 then some (0, s7) else ltb (sI s7 103 (13) (s7.1 101 44)) fun s9 => bnd2 (f_X12_needsBoth 43347 1 (s9.1 101 44) s9) fun y10 s11 => (if y10 = 0 then some (0, s11) else ltb (sI s11 103 (14) (s11.1 101 44)) fun s13 => bnd2 (f_X12_closes s13) fun y14 s15 => gd (isb y14) (some (y14, s15)))) else bnd2 (f_X12_fails 3 s2) fun y17 s18 => gd (isb y17) (some (y17, s18)))
set_option maxRecDepth 20000 in
set_option maxHeartbeats 2000000 in
theorem t_X12_readsStop  (s : HS) {x : Int32} {t : HS} (hf : f_X12_readsStop  s = some (x, t)) : Mt DDX12_readsStop miX12_readsStop [.ref 101] NF (hp s) (some (.int x)) NF (hp t) := by
  refine Mt.of (by decide +kernel) (Nat.le_refl _) (Nat.le_of_ble_eq_true rfl) ?_
  show Ev DDX12_readsStop miX12_readsStop NF (some (.int x)) NF (hp t) 0 NF [(0, .ref 101)] [] (hp s)
  unfold f_X12_readsStop at hf
  refine e_aload_n dX12_readsStop_0 0 rfl rfl (pc2 := 1) rfl ?_
  refine e_iconst (x := 0) dX12_readsStop_1 (by decide) (pc2 := 2) rfl ?_
  obtain ⟨y1, s2, hy1, hf⟩ := bnd2_s hf
  refine e_callVs (t_X12_isTwice 0 s hy1) dX12_readsStop_2 cv_X12_373 rfl so_101 rc_11 (by decide) (by first | exact Nat.le_of_ble_eq_true rfl | simp [rva_cat, vc_i, vc_r, vc_l, vc_n]) nn0 rfl (pc2 := 5) rfl ?_
  refine e_if_eq (tgt := 14) dX12_readsStop_5 (by decide) (pc2 := 8) rfl (fun c3 => ?_) (fun c3 => ?_)
  · have hf := if_t c3 hf
    refine e_aload_n dX12_readsStop_14 0 rfl rfl (pc2 := 15) rfl ?_
    obtain ⟨s5, hy4, hf⟩ := bnd_s hf
    refine e_callVn (t_X12_nextToken  s2 hy4) dX12_readsStop_15 cv_X12_263 rfl so_101 rc_11 (by decide) (by first | exact Nat.le_of_ble_eq_true rfl | simp [rva_cat, vc_i, vc_r, vc_l, vc_n]) nn0 rfl (pc2 := 18) rfl ?_
    refine e_aload_n dX12_readsStop_18 0 rfl rfl (pc2 := 19) rfl ?_
    refine e_bipush (x := 60) dX12_readsStop_19 (by decide) (pc2 := 21) rfl ?_
    refine e_sipush (x := 900) dX12_readsStop_21 (by decide) (pc2 := 24) rfl ?_
    obtain ⟨y6, s7, hy6, hf⟩ := bnd2_s hf
    refine e_callVs (t_X12_needsNumber 60 900 s5 hy6) dX12_readsStop_24 cv_X12_353 rfl so_101 rc_11 (by decide) (by first | exact Nat.le_of_ble_eq_true rfl | simp [rva_cat, vc_i, vc_r, vc_l, vc_n]) nn0 rfl (pc2 := 27) rfl ?_
    refine e_if_ne (tgt := 32) dX12_readsStop_27 (by decide) (pc2 := 30) rfl (fun c8 => ?_) (fun c8 => ?_)
    · have hf := if_f c8 hf
      refine e_aload_n dX12_readsStop_32 0 rfl rfl (pc2 := 33) rfl ?_
      refine e_getR (r := 103) fl_X12_13 dX12_readsStop_33 so_101 (rs_101_10 s7.2.2) (by decide) (pc2 := 36) rfl ?_
      refine e_bipush (x := 13) dX12_readsStop_36 (by decide) (pc2 := 38) rfl ?_
      refine e_aload_n dX12_readsStop_38 0 rfl rfl (pc2 := 39) rfl ?_
      refine e_getI fl_X12_347 dX12_readsStop_39 so_101 (by decide) (pc2 := 42) rfl ?_
      obtain ⟨s9, es9, hf⟩ := ltb_s hf
      refine e_iast dX12_readsStop_42 sa_103 (inb_v (by decide)) (h2 := hp s9) (by rw [es9]; rfl) (pc2 := 43) rfl ?_
      refine e_aload_n dX12_readsStop_43 0 rfl rfl (pc2 := 44) rfl ?_
      refine e_ldc2 dX12_readsStop_44 lk_X12_281 (pc2 := 47) rfl ?_
      refine e_iconst (x := 1) dX12_readsStop_47 (by decide) (pc2 := 48) rfl ?_
      refine e_aload_n dX12_readsStop_48 0 rfl rfl (pc2 := 49) rfl ?_
      refine e_getI fl_X12_347 dX12_readsStop_49 so_101 (by decide) (pc2 := 52) rfl ?_
      obtain ⟨y10, s11, hy10, hf⟩ := bnd2_s hf
      refine e_callVs (t_X12_needsBoth 43347 1 (s9.1 101 44) s9 hy10) dX12_readsStop_52 cv_X12_376 rfl so_101 rc_11 (by decide) (by first | exact Nat.le_of_ble_eq_true rfl | simp [rva_cat, vc_i, vc_r, vc_l, vc_n]) nn0 rfl (pc2 := 55) rfl ?_
      refine e_if_ne (tgt := 60) dX12_readsStop_55 (by decide) (pc2 := 58) rfl (fun c12 => ?_) (fun c12 => ?_)
      · have hf := if_f c12 hf
        refine e_aload_n dX12_readsStop_60 0 rfl rfl (pc2 := 61) rfl ?_
        refine e_getR (r := 103) fl_X12_13 dX12_readsStop_61 so_101 (rs_101_10 s11.2.2) (by decide) (pc2 := 64) rfl ?_
        refine e_bipush (x := 14) dX12_readsStop_64 (by decide) (pc2 := 66) rfl ?_
        refine e_aload_n dX12_readsStop_66 0 rfl rfl (pc2 := 67) rfl ?_
        refine e_getI fl_X12_347 dX12_readsStop_67 so_101 (by decide) (pc2 := 70) rfl ?_
        obtain ⟨s13, es13, hf⟩ := ltb_s hf
        refine e_iast dX12_readsStop_70 sa_103 (inb_v (by decide)) (h2 := hp s13) (by rw [es13]; rfl) (pc2 := 71) rfl ?_
        refine e_aload_n dX12_readsStop_71 0 rfl rfl (pc2 := 72) rfl ?_
        obtain ⟨y14, s15, hy14, hf⟩ := bnd2_s hf
        refine e_callVs (t_X12_closes  s13 hy14) dX12_readsStop_72 cv_X12_380 rfl so_101 rc_11 (by decide) (by first | exact Nat.le_of_ble_eq_true rfl | simp [rva_cat, vc_i, vc_r, vc_l, vc_n]) nn0 rfl (pc2 := 75) rfl ?_
        obtain ⟨g16, hf⟩ := gd_some hf
        cases hf
        exact e_zret (isb_n g16) rfl dX12_readsStop_75
      · have hf := if_t c12 hf
        refine e_iconst (x := 0) dX12_readsStop_58 (by decide) (pc2 := 59) rfl ?_
        cases hf
        exact e_zret (by decide) rfl dX12_readsStop_59
    · have hf := if_t c8 hf
      refine e_iconst (x := 0) dX12_readsStop_30 (by decide) (pc2 := 31) rfl ?_
      cases hf
      exact e_zret (by decide) rfl dX12_readsStop_31
  · have hf := if_f c3 hf
    refine e_aload_n dX12_readsStop_8 0 rfl rfl (pc2 := 9) rfl ?_
    refine e_iconst (x := 3) dX12_readsStop_9 (by decide) (pc2 := 10) rfl ?_
    obtain ⟨y17, s18, hy17, hf⟩ := bnd2_s hf
    refine e_callVs (t_X12_fails 3 s2 hy17) dX12_readsStop_10 cv_X12_257 rfl so_101 rc_11 (by decide) (by first | exact Nat.le_of_ble_eq_true rfl | simp [rva_cat, vc_i, vc_r, vc_l, vc_n]) nn0 rfl (pc2 := 13) rfl ?_
    obtain ⟨g19, hf⟩ := gd_some hf
    cases hf
    exact e_zret (isb_n g19) rfl dX12_readsStop_13
abbrev DDX12_readsCoach : Nat := 5
def f_X12_readsCoach  (s : HS) : Option (Int32 × HS) :=
  ltb (6 + (s.1 103 10)) fun x2 => (if x2 = 12 then bnd2 (f_X12_fails 5 s) fun y24 s25 => gd (isb y24) (some (y24, s25)) else bnd (f_X12_nextToken s) fun s5 => bnd2 (f_X12_isNew s5) fun y6 s7 => (if y6 = 0 then some (0, s7) else ltb (s7.2.1 101 7) fun x9 => bnd (f_X12_nextToken s7) fun s11 => bnd2 (f_X12_needsBoth 13318957 0 200 s11) fun y12 s13 => (if y12 = 0 then some (0, s13) else gd (inb x2 12) (ltb (sI s13 107 (x2.toNatClampNeg) (s13.1 101 44)) fun s15 => gd (inb x2 12) (ltb (sL s15 104 (x2.toNatClampNeg) x9) fun s17 => ltb (sI s17 103 (10) ((s17.1 103 10) + 1)) fun s20 => bnd2 (f_X12_closes s20) fun y21 s22 => gd (isb y21) (some (y21, s22)))))))
set_option maxRecDepth 20000 in
set_option maxHeartbeats 2000000 in
theorem t_X12_readsCoach  (s : HS) {x : Int32} {t : HS} (hf : f_X12_readsCoach  s = some (x, t)) : Mt DDX12_readsCoach miX12_readsCoach [.ref 101] NF (hp s) (some (.int x)) NF (hp t) := by
  refine Mt.of (by decide +kernel) (Nat.le_refl _) (Nat.le_of_ble_eq_true rfl) ?_
  show Ev DDX12_readsCoach miX12_readsCoach NF (some (.int x)) NF (hp t) 0 NF [(0, .ref 101)] [] (hp s)
  unfold f_X12_readsCoach at hf
  refine e_bipush (x := 6) dX12_readsCoach_0 (by decide) (pc2 := 2) rfl ?_
  refine e_aload_n dX12_readsCoach_2 0 rfl rfl (pc2 := 3) rfl ?_
  refine e_getR (r := 103) fl_X12_13 dX12_readsCoach_3 so_101 (rs_101_10 s.2.2) (by decide) (pc2 := 6) rfl ?_
  refine e_bipush (x := 10) dX12_readsCoach_6 (by decide) (pc2 := 8) rfl ?_
  refine e_iald dX12_readsCoach_8 sa_103 (inb_v (by decide)) (pc2 := 9) rfl ?_
  refine e_iadd dX12_readsCoach_9 (pc2 := 10) rfl ?_
  obtain ⟨x2, ex2, hf⟩ := ltb_s hf
  refine e_istore_n dX12_readsCoach_10 rfl (by decide) ex2.symm (ls' := [(0, .ref 101), (1, .int x2)]) [1, 0] rfl (pc2 := 11) rfl ?_
  refine e_iload_n dX12_readsCoach_11 1 rfl rfl (pc2 := 12) rfl ?_
  refine e_bipush (x := 12) dX12_readsCoach_12 (by decide) (pc2 := 14) rfl ?_
  refine e_icmp_ne (tgt := 23) dX12_readsCoach_14 (by decide) (pc2 := 17) rfl (fun c3 => ?_) (fun c3 => ?_)
  · have hf := if_f c3 hf
    refine e_aload_n dX12_readsCoach_23 0 rfl rfl (pc2 := 24) rfl ?_
    obtain ⟨s5, hy4, hf⟩ := bnd_s hf
    refine e_callVn (t_X12_nextToken  s hy4) dX12_readsCoach_24 cv_X12_263 rfl so_101 rc_11 (by decide) (by first | exact Nat.le_of_ble_eq_true rfl | simp [rva_cat, vc_i, vc_r, vc_l, vc_n]) nn0 rfl (pc2 := 27) rfl ?_
    refine e_aload_n dX12_readsCoach_27 0 rfl rfl (pc2 := 28) rfl ?_
    obtain ⟨y6, s7, hy6, hf⟩ := bnd2_s hf
    refine e_callVs (t_X12_isNew  s5 hy6) dX12_readsCoach_28 cv_X12_383 rfl so_101 rc_11 (by decide) (by first | exact Nat.le_of_ble_eq_true rfl | simp [rva_cat, vc_i, vc_r, vc_l, vc_n]) nn0 rfl (pc2 := 31) rfl ?_
    refine e_if_ne (tgt := 36) dX12_readsCoach_31 (by decide) (pc2 := 34) rfl (fun c8 => ?_) (fun c8 => ?_)
    · have hf := if_f c8 hf
      refine e_aload_n dX12_readsCoach_36 0 rfl rfl (pc2 := 37) rfl ?_
      refine e_getL fl_X12_211 dX12_readsCoach_37 so_101 rfl (pc2 := 40) rfl ?_
      obtain ⟨x9, ex9, hf⟩ := ltb_s hf
      refine e_lstore_n dX12_readsCoach_40 rfl (by decide) ex9.symm (ls' := [(0, .ref 101), (1, .int x2), (2, .long x9)]) [1, 2, 0] rfl (pc2 := 41) rfl ?_
      refine e_aload_n dX12_readsCoach_41 0 rfl rfl (pc2 := 42) rfl ?_
      obtain ⟨s11, hy10, hf⟩ := bnd_s hf
      refine e_callVn (t_X12_nextToken  s7 hy10) dX12_readsCoach_42 cv_X12_263 rfl so_101 rc_11 (by decide) (by first | exact Nat.le_of_ble_eq_true rfl | simp [rva_cat, vc_i, vc_r, vc_l, vc_n]) nn0 rfl (pc2 := 45) rfl ?_
      refine e_aload_n dX12_readsCoach_45 0 rfl rfl (pc2 := 46) rfl ?_
      refine e_ldc2 dX12_readsCoach_46 lk_X12_285 (pc2 := 49) rfl ?_
      refine e_iconst (x := 0) dX12_readsCoach_49 (by decide) (pc2 := 50) rfl ?_
      refine e_sipush (x := 200) dX12_readsCoach_50 (by decide) (pc2 := 53) rfl ?_
      obtain ⟨y12, s13, hy12, hf⟩ := bnd2_s hf
      refine e_callVs (t_X12_needsBoth 13318957 0 200 s11 hy12) dX12_readsCoach_53 cv_X12_376 rfl so_101 rc_11 (by decide) (by first | exact Nat.le_of_ble_eq_true rfl | simp [rva_cat, vc_i, vc_r, vc_l, vc_n]) nn0 rfl (pc2 := 56) rfl ?_
      refine e_if_ne (tgt := 61) dX12_readsCoach_56 (by decide) (pc2 := 59) rfl (fun c14 => ?_) (fun c14 => ?_)
      · have hf := if_f c14 hf
        refine e_aload_n dX12_readsCoach_61 0 rfl rfl (pc2 := 62) rfl ?_
        refine e_getR (r := 107) fl_X12_26 dX12_readsCoach_62 so_101 (rs_101_14 s13.2.2) (by decide) (pc2 := 65) rfl ?_
        refine e_iload_n dX12_readsCoach_65 1 rfl rfl (pc2 := 66) rfl ?_
        refine e_aload_n dX12_readsCoach_66 0 rfl rfl (pc2 := 67) rfl ?_
        refine e_getI fl_X12_347 dX12_readsCoach_67 so_101 (by decide) (pc2 := 70) rfl ?_
        obtain ⟨g16, hf⟩ := gd_some hf
        obtain ⟨s15, es15, hf⟩ := ltb_s hf
        refine e_iast dX12_readsCoach_70 sa_107 (inb_v g16) (h2 := hp s15) (by rw [es15]; rfl) (pc2 := 71) rfl ?_
        refine e_aload_n dX12_readsCoach_71 0 rfl rfl (pc2 := 72) rfl ?_
        refine e_getR (r := 104) fl_X12_16 dX12_readsCoach_72 so_101 (rs_101_11 s15.2.2) (by decide) (pc2 := 75) rfl ?_
        refine e_iload_n dX12_readsCoach_75 1 rfl rfl (pc2 := 76) rfl ?_
        refine e_lload_n dX12_readsCoach_76 2 rfl rfl (pc2 := 77) rfl ?_
        obtain ⟨g18, hf⟩ := gd_some hf
        obtain ⟨s17, es17, hf⟩ := ltb_s hf
        refine e_last dX12_readsCoach_77 sa_104 (inb_v g18) (h2 := hp s17) (by rw [es17]; rfl) (pc2 := 78) rfl ?_
        refine e_aload_n dX12_readsCoach_78 0 rfl rfl (pc2 := 79) rfl ?_
        refine e_getR (r := 103) fl_X12_13 dX12_readsCoach_79 so_101 (rs_101_10 s17.2.2) (by decide) (pc2 := 82) rfl ?_
        refine e_bipush (x := 10) dX12_readsCoach_82 (by decide) (pc2 := 84) rfl ?_
        refine e_dup2 dX12_readsCoach_84 rfl rfl (pc2 := 85) rfl ?_
        refine e_iald dX12_readsCoach_85 sa_103 (inb_v (by decide)) (pc2 := 86) rfl ?_
        refine e_iconst (x := 1) dX12_readsCoach_86 (by decide) (pc2 := 87) rfl ?_
        refine e_iadd dX12_readsCoach_87 (pc2 := 88) rfl ?_
        obtain ⟨s20, es20, hf⟩ := ltb_s hf
        refine e_iast dX12_readsCoach_88 sa_103 (inb_v (by decide)) (h2 := hp s20) (by rw [es20]; rfl) (pc2 := 89) rfl ?_
        refine e_aload_n dX12_readsCoach_89 0 rfl rfl (pc2 := 90) rfl ?_
        obtain ⟨y21, s22, hy21, hf⟩ := bnd2_s hf
        refine e_callVs (t_X12_closes  s20 hy21) dX12_readsCoach_90 cv_X12_380 rfl so_101 rc_11 (by decide) (by first | exact Nat.le_of_ble_eq_true rfl | simp [rva_cat, vc_i, vc_r, vc_l, vc_n]) nn0 rfl (pc2 := 93) rfl ?_
        obtain ⟨g23, hf⟩ := gd_some hf
        cases hf
        exact e_zret (isb_n g23) rfl dX12_readsCoach_93
      · have hf := if_t c14 hf
        refine e_iconst (x := 0) dX12_readsCoach_59 (by decide) (pc2 := 60) rfl ?_
        cases hf
        exact e_zret (by decide) rfl dX12_readsCoach_60
    · have hf := if_t c8 hf
      refine e_iconst (x := 0) dX12_readsCoach_34 (by decide) (pc2 := 35) rfl ?_
      cases hf
      exact e_zret (by decide) rfl dX12_readsCoach_35
  · have hf := if_t c3 hf
    refine e_aload_n dX12_readsCoach_17 0 rfl rfl (pc2 := 18) rfl ?_
    refine e_iconst (x := 5) dX12_readsCoach_18 (by decide) (pc2 := 19) rfl ?_
    obtain ⟨y24, s25, hy24, hf⟩ := bnd2_s hf
    refine e_callVs (t_X12_fails 5 s hy24) dX12_readsCoach_19 cv_X12_257 rfl so_101 rc_11 (by decide) (by first | exact Nat.le_of_ble_eq_true rfl | simp [rva_cat, vc_i, vc_r, vc_l, vc_n]) nn0 rfl (pc2 := 22) rfl ?_
    obtain ⟨g26, hf⟩ := gd_some hf
    cases hf
    exact e_zret (isb_n g26) rfl dX12_readsCoach_22
abbrev DDX12_readsThing : Nat := 5
def f_X12_readsThing_j92 (v1 : Int32) (v2 : Int64) (w0 : Int32) (w1 : Int32) (s : HS) : Option (Int32 × HS) :=
  gd (inb w1 10) (ltb (sI s 108 (w1.toNatClampNeg) w0) fun s15 => gd (inb v1 10) ((if 0 ≤ (s15.1 108 v1.toNatClampNeg) then bnd (f_X12_nextToken s15) fun s20 => bnd2 (f_X12_needsBoth 377722 1 60 s20) fun y21 s22 => (if y21 = 0 then some (0, s22) else gd (inb v1 10) (ltb (sI s22 109 (v1.toNatClampNeg) (s22.1 101 44)) fun s24 => bnd2 (f_X12_needsBoth 8863997 1 99 s24) fun y26 s27 => (if y26 = 0 then some (0, s27) else gd (inb v1 10) (ltb (sI s27 110 (v1.toNatClampNeg) (s27.1 101 44)) fun s29 => bnd2 (f_X12_needsBoth 6257 0 99 s29) fun y31 s32 => (if y31 = 0 then some (0, s32) else gd (inb v1 10) (ltb (sI s32 111 (v1.toNatClampNeg) (s32.1 101 44)) fun s34 => bnd2 (f_X12_needsBoth 1900846 0 20 s34) fun y36 s37 => (if y36 = 0 then some (0, s37) else gd (inb v1 10) (ltb (sI s37 112 (v1.toNatClampNeg) (s37.1 101 44)) fun s39 => gd (inb v1 10) (ltb (sL s39 105 (v1.toNatClampNeg) v2) fun s41 => ltb (sI s41 103 (11) ((s41.1 103 11) + 1)) fun s44 => bnd2 (f_X12_closes s44) fun y45 s46 => gd (isb y45) (some (y45, s46))))))))))) else bnd2 (f_X12_fails 1 s15) fun y48 s49 => gd (isb y48) (some (y48, s49)))))
set_option maxRecDepth 20000 in
set_option maxHeartbeats 2000000 in
theorem t_X12_readsThing_j92 (v1 : Int32) (v2 : Int64) (w0 : Int32) (w1 : Int32) (s : HS) {x : Int32} {t : HS}  (hf : f_X12_readsThing_j92 v1 v2 w0 w1 s = some (x, t)) : Ev DDX12_readsThing miX12_readsThing NF (some (.int x)) NF (hp t) 92 NF [(0, .ref 101), (1, .int v1), (2, .long v2)] [.int w0, .int w1, .ref 108] (hp s) := by
  obtain ⟨g16, hf⟩ := gd_some hf
  obtain ⟨s15, es15, hf⟩ := ltb_s hf
  refine e_iast dX12_readsThing_92 sa_108 (inb_v g16) (h2 := hp s15) (by rw [es15]; rfl) (pc2 := 93) rfl ?_
  refine e_aload_n dX12_readsThing_93 0 rfl rfl (pc2 := 94) rfl ?_
  refine e_getR (r := 108) fl_X12_29 dX12_readsThing_94 so_101 (rs_101_15 s15.2.2) (by decide) (pc2 := 97) rfl ?_
  refine e_iload_n dX12_readsThing_97 1 rfl rfl (pc2 := 98) rfl ?_
  obtain ⟨g17, hf⟩ := gd_some hf
  refine e_iald dX12_readsThing_98 sa_108 (inb_v g17) (pc2 := 99) rfl ?_
  refine e_if_ge (tgt := 108) dX12_readsThing_99 (by decide) (pc2 := 102) rfl (fun c18 => ?_) (fun c18 => ?_)
  · have hf := if_t c18 hf
    refine e_aload_n dX12_readsThing_108 0 rfl rfl (pc2 := 109) rfl ?_
    obtain ⟨s20, hy19, hf⟩ := bnd_s hf
    refine e_callVn (t_X12_nextToken  s15 hy19) dX12_readsThing_109 cv_X12_263 rfl so_101 rc_11 (by decide) (by first | exact Nat.le_of_ble_eq_true rfl | simp [rva_cat, vc_i, vc_r, vc_l, vc_n]) nn0 rfl (pc2 := 112) rfl ?_
    refine e_aload_n dX12_readsThing_112 0 rfl rfl (pc2 := 113) rfl ?_
    refine e_ldc2 dX12_readsThing_113 lk_X12_289 (pc2 := 116) rfl ?_
    refine e_iconst (x := 1) dX12_readsThing_116 (by decide) (pc2 := 117) rfl ?_
    refine e_bipush (x := 60) dX12_readsThing_117 (by decide) (pc2 := 119) rfl ?_
    obtain ⟨y21, s22, hy21, hf⟩ := bnd2_s hf
    refine e_callVs (t_X12_needsBoth 377722 1 60 s20 hy21) dX12_readsThing_119 cv_X12_376 rfl so_101 rc_11 (by decide) (by first | exact Nat.le_of_ble_eq_true rfl | simp [rva_cat, vc_i, vc_r, vc_l, vc_n]) nn0 rfl (pc2 := 122) rfl ?_
    refine e_if_ne (tgt := 127) dX12_readsThing_122 (by decide) (pc2 := 125) rfl (fun c23 => ?_) (fun c23 => ?_)
    · have hf := if_f c23 hf
      refine e_aload_n dX12_readsThing_127 0 rfl rfl (pc2 := 128) rfl ?_
      refine e_getR (r := 109) fl_X12_32 dX12_readsThing_128 so_101 (rs_101_16 s22.2.2) (by decide) (pc2 := 131) rfl ?_
      refine e_iload_n dX12_readsThing_131 1 rfl rfl (pc2 := 132) rfl ?_
      refine e_aload_n dX12_readsThing_132 0 rfl rfl (pc2 := 133) rfl ?_
      refine e_getI fl_X12_347 dX12_readsThing_133 so_101 (by decide) (pc2 := 136) rfl ?_
      obtain ⟨g25, hf⟩ := gd_some hf
      obtain ⟨s24, es24, hf⟩ := ltb_s hf
      refine e_iast dX12_readsThing_136 sa_109 (inb_v g25) (h2 := hp s24) (by rw [es24]; rfl) (pc2 := 137) rfl ?_
      refine e_aload_n dX12_readsThing_137 0 rfl rfl (pc2 := 138) rfl ?_
      refine e_ldc2 dX12_readsThing_138 lk_X12_291 (pc2 := 141) rfl ?_
      refine e_iconst (x := 1) dX12_readsThing_141 (by decide) (pc2 := 142) rfl ?_
      refine e_bipush (x := 99) dX12_readsThing_142 (by decide) (pc2 := 144) rfl ?_
      obtain ⟨y26, s27, hy26, hf⟩ := bnd2_s hf
      refine e_callVs (t_X12_needsBoth 8863997 1 99 s24 hy26) dX12_readsThing_144 cv_X12_376 rfl so_101 rc_11 (by decide) (by first | exact Nat.le_of_ble_eq_true rfl | simp [rva_cat, vc_i, vc_r, vc_l, vc_n]) nn0 rfl (pc2 := 147) rfl ?_
      refine e_if_ne (tgt := 152) dX12_readsThing_147 (by decide) (pc2 := 150) rfl (fun c28 => ?_) (fun c28 => ?_)
      · have hf := if_f c28 hf
        refine e_aload_n dX12_readsThing_152 0 rfl rfl (pc2 := 153) rfl ?_
        refine e_getR (r := 110) fl_X12_35 dX12_readsThing_153 so_101 (rs_101_17 s27.2.2) (by decide) (pc2 := 156) rfl ?_
        refine e_iload_n dX12_readsThing_156 1 rfl rfl (pc2 := 157) rfl ?_
        refine e_aload_n dX12_readsThing_157 0 rfl rfl (pc2 := 158) rfl ?_
        refine e_getI fl_X12_347 dX12_readsThing_158 so_101 (by decide) (pc2 := 161) rfl ?_
        obtain ⟨g30, hf⟩ := gd_some hf
        obtain ⟨s29, es29, hf⟩ := ltb_s hf
        refine e_iast dX12_readsThing_161 sa_110 (inb_v g30) (h2 := hp s29) (by rw [es29]; rfl) (pc2 := 162) rfl ?_
        refine e_aload_n dX12_readsThing_162 0 rfl rfl (pc2 := 163) rfl ?_
        refine e_ldc2 dX12_readsThing_163 lk_X12_293 (pc2 := 166) rfl ?_
        refine e_iconst (x := 0) dX12_readsThing_166 (by decide) (pc2 := 167) rfl ?_
        refine e_bipush (x := 99) dX12_readsThing_167 (by decide) (pc2 := 169) rfl ?_
        obtain ⟨y31, s32, hy31, hf⟩ := bnd2_s hf
        refine e_callVs (t_X12_needsBoth 6257 0 99 s29 hy31) dX12_readsThing_169 cv_X12_376 rfl so_101 rc_11 (by decide) (by first | exact Nat.le_of_ble_eq_true rfl | simp [rva_cat, vc_i, vc_r, vc_l, vc_n]) nn0 rfl (pc2 := 172) rfl ?_
        refine e_if_ne (tgt := 177) dX12_readsThing_172 (by decide) (pc2 := 175) rfl (fun c33 => ?_) (fun c33 => ?_)
        · have hf := if_f c33 hf
          refine e_aload_n dX12_readsThing_177 0 rfl rfl (pc2 := 178) rfl ?_
          refine e_getR (r := 111) fl_X12_38 dX12_readsThing_178 so_101 (rs_101_18 s32.2.2) (by decide) (pc2 := 181) rfl ?_
          refine e_iload_n dX12_readsThing_181 1 rfl rfl (pc2 := 182) rfl ?_
          refine e_aload_n dX12_readsThing_182 0 rfl rfl (pc2 := 183) rfl ?_
          refine e_getI fl_X12_347 dX12_readsThing_183 so_101 (by decide) (pc2 := 186) rfl ?_
          obtain ⟨g35, hf⟩ := gd_some hf
          obtain ⟨s34, es34, hf⟩ := ltb_s hf
          refine e_iast dX12_readsThing_186 sa_111 (inb_v g35) (h2 := hp s34) (by rw [es34]; rfl) (pc2 := 187) rfl ?_
          refine e_aload_n dX12_readsThing_187 0 rfl rfl (pc2 := 188) rfl ?_
          refine e_ldc2 dX12_readsThing_188 lk_X12_295 (pc2 := 191) rfl ?_
          refine e_iconst (x := 0) dX12_readsThing_191 (by decide) (pc2 := 192) rfl ?_
          refine e_bipush (x := 20) dX12_readsThing_192 (by decide) (pc2 := 194) rfl ?_
          obtain ⟨y36, s37, hy36, hf⟩ := bnd2_s hf
          refine e_callVs (t_X12_needsBoth 1900846 0 20 s34 hy36) dX12_readsThing_194 cv_X12_376 rfl so_101 rc_11 (by decide) (by first | exact Nat.le_of_ble_eq_true rfl | simp [rva_cat, vc_i, vc_r, vc_l, vc_n]) nn0 rfl (pc2 := 197) rfl ?_
          refine e_if_ne (tgt := 202) dX12_readsThing_197 (by decide) (pc2 := 200) rfl (fun c38 => ?_) (fun c38 => ?_)
          · have hf := if_f c38 hf
            refine e_aload_n dX12_readsThing_202 0 rfl rfl (pc2 := 203) rfl ?_
            refine e_getR (r := 112) fl_X12_41 dX12_readsThing_203 so_101 (rs_101_19 s37.2.2) (by decide) (pc2 := 206) rfl ?_
            refine e_iload_n dX12_readsThing_206 1 rfl rfl (pc2 := 207) rfl ?_
            refine e_aload_n dX12_readsThing_207 0 rfl rfl (pc2 := 208) rfl ?_
            refine e_getI fl_X12_347 dX12_readsThing_208 so_101 (by decide) (pc2 := 211) rfl ?_
            obtain ⟨g40, hf⟩ := gd_some hf
            obtain ⟨s39, es39, hf⟩ := ltb_s hf
            refine e_iast dX12_readsThing_211 sa_112 (inb_v g40) (h2 := hp s39) (by rw [es39]; rfl) (pc2 := 212) rfl ?_
            refine e_aload_n dX12_readsThing_212 0 rfl rfl (pc2 := 213) rfl ?_
            refine e_getR (r := 105) fl_X12_20 dX12_readsThing_213 so_101 (rs_101_12 s39.2.2) (by decide) (pc2 := 216) rfl ?_
            refine e_iload_n dX12_readsThing_216 1 rfl rfl (pc2 := 217) rfl ?_
            refine e_lload_n dX12_readsThing_217 2 rfl rfl (pc2 := 218) rfl ?_
            obtain ⟨g42, hf⟩ := gd_some hf
            obtain ⟨s41, es41, hf⟩ := ltb_s hf
            refine e_last dX12_readsThing_218 sa_105 (inb_v g42) (h2 := hp s41) (by rw [es41]; rfl) (pc2 := 219) rfl ?_
            refine e_aload_n dX12_readsThing_219 0 rfl rfl (pc2 := 220) rfl ?_
            refine e_getR (r := 103) fl_X12_13 dX12_readsThing_220 so_101 (rs_101_10 s41.2.2) (by decide) (pc2 := 223) rfl ?_
            refine e_bipush (x := 11) dX12_readsThing_223 (by decide) (pc2 := 225) rfl ?_
            refine e_dup2 dX12_readsThing_225 rfl rfl (pc2 := 226) rfl ?_
            refine e_iald dX12_readsThing_226 sa_103 (inb_v (by decide)) (pc2 := 227) rfl ?_
            refine e_iconst (x := 1) dX12_readsThing_227 (by decide) (pc2 := 228) rfl ?_
            refine e_iadd dX12_readsThing_228 (pc2 := 229) rfl ?_
            obtain ⟨s44, es44, hf⟩ := ltb_s hf
            refine e_iast dX12_readsThing_229 sa_103 (inb_v (by decide)) (h2 := hp s44) (by rw [es44]; rfl) (pc2 := 230) rfl ?_
            refine e_aload_n dX12_readsThing_230 0 rfl rfl (pc2 := 231) rfl ?_
            obtain ⟨y45, s46, hy45, hf⟩ := bnd2_s hf
            refine e_callVs (t_X12_closes  s44 hy45) dX12_readsThing_231 cv_X12_380 rfl so_101 rc_11 (by decide) (by first | exact Nat.le_of_ble_eq_true rfl | simp [rva_cat, vc_i, vc_r, vc_l, vc_n]) nn0 rfl (pc2 := 234) rfl ?_
            obtain ⟨g47, hf⟩ := gd_some hf
            cases hf
            exact e_zret (isb_n g47) rfl dX12_readsThing_234
          · have hf := if_t c38 hf
            refine e_iconst (x := 0) dX12_readsThing_200 (by decide) (pc2 := 201) rfl ?_
            cases hf
            exact e_zret (by decide) rfl dX12_readsThing_201
        · have hf := if_t c33 hf
          refine e_iconst (x := 0) dX12_readsThing_175 (by decide) (pc2 := 176) rfl ?_
          cases hf
          exact e_zret (by decide) rfl dX12_readsThing_176
      · have hf := if_t c28 hf
        refine e_iconst (x := 0) dX12_readsThing_150 (by decide) (pc2 := 151) rfl ?_
        cases hf
        exact e_zret (by decide) rfl dX12_readsThing_151
    · have hf := if_t c23 hf
      refine e_iconst (x := 0) dX12_readsThing_125 (by decide) (pc2 := 126) rfl ?_
      cases hf
      exact e_zret (by decide) rfl dX12_readsThing_126
  · have hf := if_f c18 hf
    refine e_aload_n dX12_readsThing_102 0 rfl rfl (pc2 := 103) rfl ?_
    refine e_iconst (x := 1) dX12_readsThing_103 (by decide) (pc2 := 104) rfl ?_
    obtain ⟨y48, s49, hy48, hf⟩ := bnd2_s hf
    refine e_callVs (t_X12_fails 1 s15 hy48) dX12_readsThing_104 cv_X12_257 rfl so_101 rc_11 (by decide) (by first | exact Nat.le_of_ble_eq_true rfl | simp [rva_cat, vc_i, vc_r, vc_l, vc_n]) nn0 rfl (pc2 := 107) rfl ?_
    obtain ⟨g50, hf⟩ := gd_some hf
    cases hf
    exact e_zret (isb_n g50) rfl dX12_readsThing_107
def f_X12_readsThing  (s : HS) : Option (Int32 × HS) :=
  ltb (5 + (s.1 103 11)) fun x2 => (if x2 = 10 then bnd2 (f_X12_fails 5 s) fun y51 s52 => gd (isb y51) (some (y51, s52)) else bnd (f_X12_nextToken s) fun s5 => bnd2 (f_X12_isNew s5) fun y6 s7 => (if y6 = 0 then some (0, s7) else ltb (s7.2.1 101 7) fun x9 => bnd (f_X12_nextToken s7) fun s11 => (if (f_X12_isWord 14716 s11) = 0 then (if (f_X12_isWord 385495 s11) = 0 then (if (f_X12_isWord 11912 s11) = 0 then f_X12_readsThing_j92 x2 x9 (-1) x2 s11 else f_X12_readsThing_j92 x2 x9 2 x2 s11) else f_X12_readsThing_j92 x2 x9 1 x2 s11) else f_X12_readsThing_j92 x2 x9 0 x2 s11)))
set_option maxRecDepth 20000 in
set_option maxHeartbeats 2000000 in
theorem t_X12_readsThing  (s : HS) {x : Int32} {t : HS} (hf : f_X12_readsThing  s = some (x, t)) : Mt DDX12_readsThing miX12_readsThing [.ref 101] NF (hp s) (some (.int x)) NF (hp t) := by
  refine Mt.of (by decide +kernel) (Nat.le_refl _) (Nat.le_of_ble_eq_true rfl) ?_
  show Ev DDX12_readsThing miX12_readsThing NF (some (.int x)) NF (hp t) 0 NF [(0, .ref 101)] [] (hp s)
  unfold f_X12_readsThing at hf
  refine e_iconst (x := 5) dX12_readsThing_0 (by decide) (pc2 := 1) rfl ?_
  refine e_aload_n dX12_readsThing_1 0 rfl rfl (pc2 := 2) rfl ?_
  refine e_getR (r := 103) fl_X12_13 dX12_readsThing_2 so_101 (rs_101_10 s.2.2) (by decide) (pc2 := 5) rfl ?_
  refine e_bipush (x := 11) dX12_readsThing_5 (by decide) (pc2 := 7) rfl ?_
  refine e_iald dX12_readsThing_7 sa_103 (inb_v (by decide)) (pc2 := 8) rfl ?_
  refine e_iadd dX12_readsThing_8 (pc2 := 9) rfl ?_
  obtain ⟨x2, ex2, hf⟩ := ltb_s hf
  refine e_istore_n dX12_readsThing_9 rfl (by decide) ex2.symm (ls' := [(0, .ref 101), (1, .int x2)]) [1, 0] rfl (pc2 := 10) rfl ?_
  refine e_iload_n dX12_readsThing_10 1 rfl rfl (pc2 := 11) rfl ?_
  refine e_bipush (x := 10) dX12_readsThing_11 (by decide) (pc2 := 13) rfl ?_
  refine e_icmp_ne (tgt := 22) dX12_readsThing_13 (by decide) (pc2 := 16) rfl (fun c3 => ?_) (fun c3 => ?_)
  · have hf := if_f c3 hf
    refine e_aload_n dX12_readsThing_22 0 rfl rfl (pc2 := 23) rfl ?_
    obtain ⟨s5, hy4, hf⟩ := bnd_s hf
    refine e_callVn (t_X12_nextToken  s hy4) dX12_readsThing_23 cv_X12_263 rfl so_101 rc_11 (by decide) (by first | exact Nat.le_of_ble_eq_true rfl | simp [rva_cat, vc_i, vc_r, vc_l, vc_n]) nn0 rfl (pc2 := 26) rfl ?_
    refine e_aload_n dX12_readsThing_26 0 rfl rfl (pc2 := 27) rfl ?_
    obtain ⟨y6, s7, hy6, hf⟩ := bnd2_s hf
    refine e_callVs (t_X12_isNew  s5 hy6) dX12_readsThing_27 cv_X12_383 rfl so_101 rc_11 (by decide) (by first | exact Nat.le_of_ble_eq_true rfl | simp [rva_cat, vc_i, vc_r, vc_l, vc_n]) nn0 rfl (pc2 := 30) rfl ?_
    refine e_if_ne (tgt := 35) dX12_readsThing_30 (by decide) (pc2 := 33) rfl (fun c8 => ?_) (fun c8 => ?_)
    · have hf := if_f c8 hf
      refine e_aload_n dX12_readsThing_35 0 rfl rfl (pc2 := 36) rfl ?_
      refine e_getL fl_X12_211 dX12_readsThing_36 so_101 rfl (pc2 := 39) rfl ?_
      obtain ⟨x9, ex9, hf⟩ := ltb_s hf
      refine e_lstore_n dX12_readsThing_39 rfl (by decide) ex9.symm (ls' := [(0, .ref 101), (1, .int x2), (2, .long x9)]) [1, 2, 0] rfl (pc2 := 40) rfl ?_
      refine e_aload_n dX12_readsThing_40 0 rfl rfl (pc2 := 41) rfl ?_
      obtain ⟨s11, hy10, hf⟩ := bnd_s hf
      refine e_callVn (t_X12_nextToken  s7 hy10) dX12_readsThing_41 cv_X12_263 rfl so_101 rc_11 (by decide) (by first | exact Nat.le_of_ble_eq_true rfl | simp [rva_cat, vc_i, vc_r, vc_l, vc_n]) nn0 rfl (pc2 := 44) rfl ?_
      refine e_aload_n dX12_readsThing_44 0 rfl rfl (pc2 := 45) rfl ?_
      refine e_getR (r := 108) fl_X12_29 dX12_readsThing_45 so_101 (rs_101_15 s11.2.2) (by decide) (pc2 := 48) rfl ?_
      refine e_iload_n dX12_readsThing_48 1 rfl rfl (pc2 := 49) rfl ?_
      refine e_aload_n dX12_readsThing_49 0 rfl rfl (pc2 := 50) rfl ?_
      refine e_ldc2 dX12_readsThing_50 lk_X12_327 (pc2 := 53) rfl ?_
      refine e_callVs (t_X12_isWord 14716 s11 rfl) dX12_readsThing_53 cv_X12_249 rfl so_101 rc_11 (by decide) (by first | exact Nat.le_of_ble_eq_true rfl | simp [rva_cat, vc_i, vc_r, vc_l, vc_n]) nn0 rfl (pc2 := 56) rfl ?_
      refine e_if_eq (tgt := 63) dX12_readsThing_56 (by decide) (pc2 := 59) rfl (fun c12 => ?_) (fun c12 => ?_)
      · have hf := if_t c12 hf
        refine e_aload_n dX12_readsThing_63 0 rfl rfl (pc2 := 64) rfl ?_
        refine e_ldc2 dX12_readsThing_64 lk_X12_329 (pc2 := 67) rfl ?_
        refine e_callVs (t_X12_isWord 385495 s11 rfl) dX12_readsThing_67 cv_X12_249 rfl so_101 rc_11 (by decide) (by first | exact Nat.le_of_ble_eq_true rfl | simp [rva_cat, vc_i, vc_r, vc_l, vc_n]) nn0 rfl (pc2 := 70) rfl ?_
        refine e_if_eq (tgt := 77) dX12_readsThing_70 (by decide) (pc2 := 73) rfl (fun c13 => ?_) (fun c13 => ?_)
        · have hf := if_t c13 hf
          refine e_aload_n dX12_readsThing_77 0 rfl rfl (pc2 := 78) rfl ?_
          refine e_ldc2 dX12_readsThing_78 lk_X12_331 (pc2 := 81) rfl ?_
          refine e_callVs (t_X12_isWord 11912 s11 rfl) dX12_readsThing_81 cv_X12_249 rfl so_101 rc_11 (by decide) (by first | exact Nat.le_of_ble_eq_true rfl | simp [rva_cat, vc_i, vc_r, vc_l, vc_n]) nn0 rfl (pc2 := 84) rfl ?_
          refine e_if_eq (tgt := 91) dX12_readsThing_84 (by decide) (pc2 := 87) rfl (fun c14 => ?_) (fun c14 => ?_)
          · have hf := if_t c14 hf
            refine e_iconst (x := (-1)) dX12_readsThing_91 (by decide) (pc2 := 92) rfl ?_
            exact t_X12_readsThing_j92 x2 x9 (-1) x2 s11 hf
          · have hf := if_f c14 hf
            refine e_iconst (x := 2) dX12_readsThing_87 (by decide) (pc2 := 88) rfl ?_
            refine e_goto (tgt := 92) dX12_readsThing_88 (by decide) ?_
            exact t_X12_readsThing_j92 x2 x9 2 x2 s11 hf
        · have hf := if_f c13 hf
          refine e_iconst (x := 1) dX12_readsThing_73 (by decide) (pc2 := 74) rfl ?_
          refine e_goto (tgt := 92) dX12_readsThing_74 (by decide) ?_
          exact t_X12_readsThing_j92 x2 x9 1 x2 s11 hf
      · have hf := if_f c12 hf
        refine e_iconst (x := 0) dX12_readsThing_59 (by decide) (pc2 := 60) rfl ?_
        refine e_goto (tgt := 92) dX12_readsThing_60 (by decide) ?_
        exact t_X12_readsThing_j92 x2 x9 0 x2 s11 hf
    · have hf := if_t c8 hf
      refine e_iconst (x := 0) dX12_readsThing_33 (by decide) (pc2 := 34) rfl ?_
      cases hf
      exact e_zret (by decide) rfl dX12_readsThing_34
  · have hf := if_t c3 hf
    refine e_aload_n dX12_readsThing_16 0 rfl rfl (pc2 := 17) rfl ?_
    refine e_iconst (x := 5) dX12_readsThing_17 (by decide) (pc2 := 18) rfl ?_
    obtain ⟨y51, s52, hy51, hf⟩ := bnd2_s hf
    refine e_callVs (t_X12_fails 5 s hy51) dX12_readsThing_18 cv_X12_257 rfl so_101 rc_11 (by decide) (by first | exact Nat.le_of_ble_eq_true rfl | simp [rva_cat, vc_i, vc_r, vc_l, vc_n]) nn0 rfl (pc2 := 21) rfl ?_
    obtain ⟨g53, hf⟩ := gd_some hf
    cases hf
    exact e_zret (isb_n g53) rfl dX12_readsThing_21
abbrev DDX12_readsWants : Nat := 4
def f_X12_readsWants_j27 (v1 : Int32) (v2 : Int32) (k9 : Int32 → HS → Option (Int32 × HS)) (s : HS) : Option (Int32 × HS) :=
  bnd2 (f_X12_needsThing 1 s) fun y5 s6 => (if y5 = 0 then some (0, s6) else (if ((v2 >>> ((s6.1 101 44) &&& 31)) &&& (1 : Int32)) = 1 then bnd2 (f_X12_fails 3 s6) fun y23 s24 => gd (isb y23) (some (y23, s24)) else gd (inb v1 12) ((if (s6.1 118 v1.toNatClampNeg) = 3 then bnd2 (f_X12_fails 5 s6) fun y20 s21 => gd (isb y20) (some (y20, s21)) else ltb (v2 ||| ((1 : Int32) <<< ((s6.1 101 44) &&& 31))) fun x11 => gd (inb v1 12) (gd (inb ((3 * v1) + (s6.1 118 v1.toNatClampNeg)) 36) (ltb (sI s6 117 (((3 * v1) + (s6.1 118 v1.toNatClampNeg)).toNatClampNeg) (s6.1 101 44)) fun s13 => gd (inb v1 12) (gd (inb v1 12) (ltb (sI s13 118 (v1.toNatClampNeg) ((s13.1 118 v1.toNatClampNeg) + 1)) fun s16 => bnd (f_X12_nextToken s16) fun s19 => k9 x11 s19))))))))
set_option maxRecDepth 20000 in
set_option maxHeartbeats 2000000 in
theorem t_X12_readsWants_j27 (v1 : Int32) (v2 : Int32) (s : HS) {x : Int32} {t : HS} (k9 : Int32 → HS → Option (Int32 × HS)) (hk9 : ∀ (a2 : Int32) (s : HS), k9 a2 s = some (x, t) → Ev DDX12_readsWants miX12_readsWants NF (some (.int x)) NF (hp t) 9 NF [(0, .ref 101), (1, .int v1), (2, .int a2)] [] (hp s)) (hf : f_X12_readsWants_j27 v1 v2 k9 s = some (x, t)) : Ev DDX12_readsWants miX12_readsWants NF (some (.int x)) NF (hp t) 27 NF [(0, .ref 101), (1, .int v1), (2, .int v2)] [] (hp s) := by
  refine e_aload_n dX12_readsWants_27 0 rfl rfl (pc2 := 28) rfl ?_
  refine e_iconst (x := 1) dX12_readsWants_28 (by decide) (pc2 := 29) rfl ?_
  obtain ⟨y5, s6, hy5, hf⟩ := bnd2_s hf
  refine e_callVs (t_X12_needsThing 1 s hy5) dX12_readsWants_29 cv_X12_386 rfl so_101 rc_11 (by decide) (by first | exact Nat.le_of_ble_eq_true rfl | simp [rva_cat, vc_i, vc_r, vc_l, vc_n]) nn0 rfl (pc2 := 32) rfl ?_
  refine e_if_ne (tgt := 37) dX12_readsWants_32 (by decide) (pc2 := 35) rfl (fun c7 => ?_) (fun c7 => ?_)
  · have hf := if_f c7 hf
    refine e_iload_n dX12_readsWants_37 2 rfl rfl (pc2 := 38) rfl ?_
    refine e_aload_n dX12_readsWants_38 0 rfl rfl (pc2 := 39) rfl ?_
    refine e_getI fl_X12_347 dX12_readsWants_39 so_101 (by decide) (pc2 := 42) rfl ?_
    refine e_ishr dX12_readsWants_42 (pc2 := 43) rfl ?_
    refine e_iconst (x := 1) dX12_readsWants_43 (by decide) (pc2 := 44) rfl ?_
    refine e_iand dX12_readsWants_44 (pc2 := 45) rfl ?_
    refine e_iconst (x := 1) dX12_readsWants_45 (by decide) (pc2 := 46) rfl ?_
    refine e_icmp_ne (tgt := 55) dX12_readsWants_46 (by decide) (pc2 := 49) rfl (fun c8 => ?_) (fun c8 => ?_)
    · have hf := if_f c8 hf
      refine e_aload_n dX12_readsWants_55 0 rfl rfl (pc2 := 56) rfl ?_
      refine e_getR (r := 118) fl_X12_59 dX12_readsWants_56 so_101 (rs_101_25 s6.2.2) (by decide) (pc2 := 59) rfl ?_
      refine e_iload_n dX12_readsWants_59 1 rfl rfl (pc2 := 60) rfl ?_
      obtain ⟨g9, hf⟩ := gd_some hf
      refine e_iald dX12_readsWants_60 sa_118 (inb_v g9) (pc2 := 61) rfl ?_
      refine e_iconst (x := 3) dX12_readsWants_61 (by decide) (pc2 := 62) rfl ?_
      refine e_icmp_ne (tgt := 71) dX12_readsWants_62 (by decide) (pc2 := 65) rfl (fun c10 => ?_) (fun c10 => ?_)
      · have hf := if_f c10 hf
        refine e_iload_n dX12_readsWants_71 2 rfl rfl (pc2 := 72) rfl ?_
        refine e_iconst (x := 1) dX12_readsWants_72 (by decide) (pc2 := 73) rfl ?_
        refine e_aload_n dX12_readsWants_73 0 rfl rfl (pc2 := 74) rfl ?_
        refine e_getI fl_X12_347 dX12_readsWants_74 so_101 (by decide) (pc2 := 77) rfl ?_
        refine e_ishl dX12_readsWants_77 (pc2 := 78) rfl ?_
        refine e_ior dX12_readsWants_78 (pc2 := 79) rfl ?_
        obtain ⟨x11, ex11, hf⟩ := ltb_s hf
        refine e_istore_n dX12_readsWants_79 rfl (by decide) ex11.symm (ls' := [(0, .ref 101), (1, .int v1), (2, .int x11)]) [1, 2, 0] rfl (pc2 := 80) rfl ?_
        refine e_aload_n dX12_readsWants_80 0 rfl rfl (pc2 := 81) rfl ?_
        refine e_getR (r := 117) fl_X12_56 dX12_readsWants_81 so_101 (rs_101_24 s6.2.2) (by decide) (pc2 := 84) rfl ?_
        refine e_iconst (x := 3) dX12_readsWants_84 (by decide) (pc2 := 85) rfl ?_
        refine e_iload_n dX12_readsWants_85 1 rfl rfl (pc2 := 86) rfl ?_
        refine e_imul dX12_readsWants_86 (pc2 := 87) rfl ?_
        refine e_aload_n dX12_readsWants_87 0 rfl rfl (pc2 := 88) rfl ?_
        refine e_getR (r := 118) fl_X12_59 dX12_readsWants_88 so_101 (rs_101_25 s6.2.2) (by decide) (pc2 := 91) rfl ?_
        refine e_iload_n dX12_readsWants_91 1 rfl rfl (pc2 := 92) rfl ?_
        obtain ⟨g12, hf⟩ := gd_some hf
        refine e_iald dX12_readsWants_92 sa_118 (inb_v g12) (pc2 := 93) rfl ?_
        refine e_iadd dX12_readsWants_93 (pc2 := 94) rfl ?_
        refine e_aload_n dX12_readsWants_94 0 rfl rfl (pc2 := 95) rfl ?_
        refine e_getI fl_X12_347 dX12_readsWants_95 so_101 (by decide) (pc2 := 98) rfl ?_
        obtain ⟨g14, hf⟩ := gd_some hf
        obtain ⟨s13, es13, hf⟩ := ltb_s hf
        refine e_iast dX12_readsWants_98 sa_117 (inb_v g14) (h2 := hp s13) (by rw [es13]; rfl) (pc2 := 99) rfl ?_
        refine e_aload_n dX12_readsWants_99 0 rfl rfl (pc2 := 100) rfl ?_
        refine e_getR (r := 118) fl_X12_59 dX12_readsWants_100 so_101 (rs_101_25 s13.2.2) (by decide) (pc2 := 103) rfl ?_
        refine e_iload_n dX12_readsWants_103 1 rfl rfl (pc2 := 104) rfl ?_
        refine e_dup2 dX12_readsWants_104 rfl rfl (pc2 := 105) rfl ?_
        obtain ⟨g15, hf⟩ := gd_some hf
        refine e_iald dX12_readsWants_105 sa_118 (inb_v g15) (pc2 := 106) rfl ?_
        refine e_iconst (x := 1) dX12_readsWants_106 (by decide) (pc2 := 107) rfl ?_
        refine e_iadd dX12_readsWants_107 (pc2 := 108) rfl ?_
        obtain ⟨g17, hf⟩ := gd_some hf
        obtain ⟨s16, es16, hf⟩ := ltb_s hf
        refine e_iast dX12_readsWants_108 sa_118 (inb_v g17) (h2 := hp s16) (by rw [es16]; rfl) (pc2 := 109) rfl ?_
        refine e_aload_n dX12_readsWants_109 0 rfl rfl (pc2 := 110) rfl ?_
        obtain ⟨s19, hy18, hf⟩ := bnd_s hf
        refine e_callVn (t_X12_nextToken  s16 hy18) dX12_readsWants_110 cv_X12_263 rfl so_101 rc_11 (by decide) (by first | exact Nat.le_of_ble_eq_true rfl | simp [rva_cat, vc_i, vc_r, vc_l, vc_n]) nn0 rfl (pc2 := 113) rfl ?_
        refine e_goto (tgt := 9) dX12_readsWants_113 (by decide) ?_
        exact hk9 x11 s19 hf
      · have hf := if_t c10 hf
        refine e_aload_n dX12_readsWants_65 0 rfl rfl (pc2 := 66) rfl ?_
        refine e_iconst (x := 5) dX12_readsWants_66 (by decide) (pc2 := 67) rfl ?_
        obtain ⟨y20, s21, hy20, hf⟩ := bnd2_s hf
        refine e_callVs (t_X12_fails 5 s6 hy20) dX12_readsWants_67 cv_X12_257 rfl so_101 rc_11 (by decide) (by first | exact Nat.le_of_ble_eq_true rfl | simp [rva_cat, vc_i, vc_r, vc_l, vc_n]) nn0 rfl (pc2 := 70) rfl ?_
        obtain ⟨g22, hf⟩ := gd_some hf
        cases hf
        exact e_zret (isb_n g22) rfl dX12_readsWants_70
    · have hf := if_t c8 hf
      refine e_aload_n dX12_readsWants_49 0 rfl rfl (pc2 := 50) rfl ?_
      refine e_iconst (x := 3) dX12_readsWants_50 (by decide) (pc2 := 51) rfl ?_
      obtain ⟨y23, s24, hy23, hf⟩ := bnd2_s hf
      refine e_callVs (t_X12_fails 3 s6 hy23) dX12_readsWants_51 cv_X12_257 rfl so_101 rc_11 (by decide) (by first | exact Nat.le_of_ble_eq_true rfl | simp [rva_cat, vc_i, vc_r, vc_l, vc_n]) nn0 rfl (pc2 := 54) rfl ?_
      obtain ⟨g25, hf⟩ := gd_some hf
      cases hf
      exact e_zret (isb_n g25) rfl dX12_readsWants_54
  · have hf := if_t c7 hf
    refine e_iconst (x := 0) dX12_readsWants_35 (by decide) (pc2 := 36) rfl ?_
    cases hf
    exact e_zret (by decide) rfl dX12_readsWants_36
def f_X12_readsWants_l9b (v1 : Int32) (v2 : Int32) (k9 : Int32 → HS → Option (Int32 × HS)) (s : HS) : Option (Int32 × HS) :=
  gd (inb v1 12) ((if (s.1 118 v1.toNatClampNeg) = 0 then f_X12_readsWants_j27 v1 v2 k9 s else bnd (f_X12_isSign 59 s) fun y26 => (if y26 = 0 then f_X12_readsWants_j27 v1 v2 k9 s else some (1, s))))
set_option maxRecDepth 20000 in
set_option maxHeartbeats 2000000 in
theorem t_X12_readsWants_l9b (v1 : Int32) (v2 : Int32) (s : HS) {x : Int32} {t : HS} (k9 : Int32 → HS → Option (Int32 × HS)) (hk9 : ∀ (a2 : Int32) (s : HS), k9 a2 s = some (x, t) → Ev DDX12_readsWants miX12_readsWants NF (some (.int x)) NF (hp t) 9 NF [(0, .ref 101), (1, .int v1), (2, .int a2)] [] (hp s)) (hf : f_X12_readsWants_l9b v1 v2 k9 s = some (x, t)) : Ev DDX12_readsWants miX12_readsWants NF (some (.int x)) NF (hp t) 9 NF [(0, .ref 101), (1, .int v1), (2, .int v2)] [] (hp s) := by
  refine e_aload_n dX12_readsWants_9 0 rfl rfl (pc2 := 10) rfl ?_
  refine e_getR (r := 118) fl_X12_59 dX12_readsWants_10 so_101 (rs_101_25 s.2.2) (by decide) (pc2 := 13) rfl ?_
  refine e_iload_n dX12_readsWants_13 1 rfl rfl (pc2 := 14) rfl ?_
  obtain ⟨g3, hf⟩ := gd_some hf
  refine e_iald dX12_readsWants_14 sa_118 (inb_v g3) (pc2 := 15) rfl ?_
  refine e_if_eq (tgt := 27) dX12_readsWants_15 (by decide) (pc2 := 18) rfl (fun c4 => ?_) (fun c4 => ?_)
  · have hf := if_t c4 hf
    exact t_X12_readsWants_j27 v1 v2 s _ hk9 hf
  · have hf := if_f c4 hf
    refine e_aload_n dX12_readsWants_18 0 rfl rfl (pc2 := 19) rfl ?_
    refine e_bipush (x := 59) dX12_readsWants_19 (by decide) (pc2 := 21) rfl ?_
    obtain ⟨y26, hy26, hf⟩ := bnd_s hf
    refine e_callVs (t_X12_isSign 59 s hy26) dX12_readsWants_21 cv_X12_253 rfl so_101 rc_11 (by decide) (by first | exact Nat.le_of_ble_eq_true rfl | simp [rva_cat, vc_i, vc_r, vc_l, vc_n]) nn0 rfl (pc2 := 24) rfl ?_
    refine e_if_ne (tgt := 116) dX12_readsWants_24 (by decide) (pc2 := 27) rfl (fun c27 => ?_) (fun c27 => ?_)
    · have hf := if_f c27 hf
      refine e_iconst (x := 1) dX12_readsWants_116 (by decide) (pc2 := 117) rfl ?_
      cases hf
      exact e_zret (by decide) rfl dX12_readsWants_117
    · have hf := if_t c27 hf
      exact t_X12_readsWants_j27 v1 v2 s _ hk9 hf
def f_X12_readsWants_l9 (v1 : Int32) : Nat → Int32 → HS → Option (Int32 × HS)
  | 0, _, _ => none
  | n + 1, v2, s => f_X12_readsWants_l9b v1 v2 (f_X12_readsWants_l9 v1 n)  s
set_option maxRecDepth 20000 in
set_option maxHeartbeats 2000000 in
theorem t_X12_readsWants_l9 (v1 : Int32) {x : Int32} {t : HS}  : ∀ (n : Nat) (v2 : Int32) (s : HS), f_X12_readsWants_l9 v1 n v2 s = some (x, t) → Ev DDX12_readsWants miX12_readsWants NF (some (.int x)) NF (hp t) 9 NF [(0, .ref 101), (1, .int v1), (2, .int v2)] [] (hp s) := by
  intro n
  induction n with
  | zero =>
    intro v2 s hf
    have hf : none = some (x, t) := hf
    cases hf
  | succ n ih =>
    intro v2 s hf
    exact t_X12_readsWants_l9b v1 v2  s _ ih  hf
def f_X12_readsWants (v1 : Int32) (s : HS) : Option (Int32 × HS) :=
  gd (inb v1 12) (ltb (sI s 118 (v1.toNatClampNeg) 0) fun s1 => f_X12_readsWants_l9 v1 FU 0 s1)
set_option maxRecDepth 20000 in
set_option maxHeartbeats 2000000 in
theorem t_X12_readsWants (v1 : Int32) (s : HS) {x : Int32} {t : HS} (hf : f_X12_readsWants  v1 s = some (x, t)) : Mt DDX12_readsWants miX12_readsWants [.ref 101, .int v1] NF (hp s) (some (.int x)) NF (hp t) := by
  refine Mt.of (by decide +kernel) (Nat.le_refl _) (Nat.le_of_ble_eq_true rfl) ?_
  show Ev DDX12_readsWants miX12_readsWants NF (some (.int x)) NF (hp t) 0 NF [(0, .ref 101), (1, .int v1)] [] (hp s)
  unfold f_X12_readsWants at hf
  refine e_iconst (x := 0) dX12_readsWants_0 (by decide) (pc2 := 1) rfl ?_
  refine e_istore_n dX12_readsWants_1 rfl (by decide) rfl (ls' := [(0, .ref 101), (1, .int v1), (2, .int 0)]) [1, 2, 0] rfl (pc2 := 2) rfl ?_
  refine e_aload_n dX12_readsWants_2 0 rfl rfl (pc2 := 3) rfl ?_
  refine e_getR (r := 118) fl_X12_59 dX12_readsWants_3 so_101 (rs_101_25 s.2.2) (by decide) (pc2 := 6) rfl ?_
  refine e_iload_n dX12_readsWants_6 1 rfl rfl (pc2 := 7) rfl ?_
  refine e_iconst (x := 0) dX12_readsWants_7 (by decide) (pc2 := 8) rfl ?_
  obtain ⟨g2, hf⟩ := gd_some hf
  obtain ⟨s1, es1, hf⟩ := ltb_s hf
  refine e_iast dX12_readsWants_8 sa_118 (inb_v g2) (h2 := hp s1) (by rw [es1]; rfl) (pc2 := 9) rfl ?_
  refine t_X12_readsWants_l9 v1 FU 0 s1 hf
