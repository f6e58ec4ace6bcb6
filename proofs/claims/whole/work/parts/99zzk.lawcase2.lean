/-! The law's cases, by program (tools/genlaw.py) -/
section LCASE2
variable {Z : ZT} {b L : Nat} {xs : Nat → Int32} {j : Int32} {cc ss : Nat} {u : HS}
set_option maxRecDepth 20000 in
theorem lc_0_feed (hw : WIN j L) (hcs : cc ≤ room_1.cells ∧ ss ≤ room_1.slots) (E : RE u) (k : ∀ u', RE u' → Ex room_1 (GW b L xs) Z miL_law 0 cc ss 1259 NF (LSj j) [] (hp u')) : Ex room_1 (GW b L xs) Z miL_law 0 cc ss 176 NF (LSj j) [] (hp u) := by
  obtain ⟨x, s', t', hc, hm, E'⟩ := law_feed E (((xs (j + 1).toNatClampNeg).toInt64 <<< (((32 : Int32)).toInt64 &&& 63)) ||| ((xs (j + 2).toNatClampNeg).toInt64 &&& 4294967295)) (((xs (j + 3).toNatClampNeg).toInt64 <<< (((32 : Int32)).toInt64 &&& 63)) ||| ((xs (j + 4).toNatClampNeg).toInt64 &&& 4294967295)) (((xs (j + 5).toNatClampNeg).toInt64 <<< (((32 : Int32)).toInt64 &&& 63)) ||| ((xs (j + 6).toNatClampNeg).toInt64 &&& 4294967295))
  refine x_aload_n dL_law_176 1 rfl rfl (pc2 := 177) rfl ?_
  refine x_aload_n dL_law_177 0 rfl rfl (pc2 := 178) rfl ?_
  refine x_iload dL_law_178 4 rfl (pc2 := 180) rfl ?_
  refine x_iconst (x := 1) dL_law_180 (by decide) (pc2 := 181) rfl ?_
  refine x_iadd dL_law_181 (pc2 := 182) rfl ?_
  refine x_sld dL_law_182 (by decide) (hw 1 (by decide)) rfl (pc2 := 183) rfl ?_
  refine x_i2l dL_law_183 (pc2 := 184) rfl ?_
  refine x_bipush (x := 32) dL_law_184 (by decide) (pc2 := 186) rfl ?_
  refine x_lshl dL_law_186 (pc2 := 187) rfl ?_
  refine x_aload_n dL_law_187 0 rfl rfl (pc2 := 188) rfl ?_
  refine x_iload dL_law_188 4 rfl (pc2 := 190) rfl ?_
  refine x_iconst (x := 2) dL_law_190 (by decide) (pc2 := 191) rfl ?_
  refine x_iadd dL_law_191 (pc2 := 192) rfl ?_
  refine x_sld dL_law_192 (by decide) (hw 2 (by decide)) rfl (pc2 := 193) rfl ?_
  refine x_i2l dL_law_193 (pc2 := 194) rfl ?_
  refine x_ldc2 (x := 4294967295) dL_law_194 (tgk (by decide +kernel) rfl) (pc2 := 197) rfl ?_
  refine x_land dL_law_197 (pc2 := 198) rfl ?_
  refine x_lor dL_law_198 (pc2 := 199) rfl ?_
  refine x_aload_n dL_law_199 0 rfl rfl (pc2 := 200) rfl ?_
  refine x_iload dL_law_200 4 rfl (pc2 := 202) rfl ?_
  refine x_iconst (x := 3) dL_law_202 (by decide) (pc2 := 203) rfl ?_
  refine x_iadd dL_law_203 (pc2 := 204) rfl ?_
  refine x_sld dL_law_204 (by decide) (hw 3 (by decide)) rfl (pc2 := 205) rfl ?_
  refine x_i2l dL_law_205 (pc2 := 206) rfl ?_
  refine x_bipush (x := 32) dL_law_206 (by decide) (pc2 := 208) rfl ?_
  refine x_lshl dL_law_208 (pc2 := 209) rfl ?_
  refine x_aload_n dL_law_209 0 rfl rfl (pc2 := 210) rfl ?_
  refine x_iload dL_law_210 4 rfl (pc2 := 212) rfl ?_
  refine x_iconst (x := 4) dL_law_212 (by decide) (pc2 := 213) rfl ?_
  refine x_iadd dL_law_213 (pc2 := 214) rfl ?_
  refine x_sld dL_law_214 (by decide) (hw 4 (by decide)) rfl (pc2 := 215) rfl ?_
  refine x_i2l dL_law_215 (pc2 := 216) rfl ?_
  refine x_ldc2 (x := 4294967295) dL_law_216 (tgk (by decide +kernel) rfl) (pc2 := 219) rfl ?_
  refine x_land dL_law_219 (pc2 := 220) rfl ?_
  refine x_lor dL_law_220 (pc2 := 221) rfl ?_
  refine x_aload_n dL_law_221 0 rfl rfl (pc2 := 222) rfl ?_
  refine x_iload dL_law_222 4 rfl (pc2 := 224) rfl ?_
  refine x_iconst (x := 5) dL_law_224 (by decide) (pc2 := 225) rfl ?_
  refine x_iadd dL_law_225 (pc2 := 226) rfl ?_
  refine x_sld dL_law_226 (by decide) (hw 5 (by decide)) rfl (pc2 := 227) rfl ?_
  refine x_i2l dL_law_227 (pc2 := 228) rfl ?_
  refine x_bipush (x := 32) dL_law_228 (by decide) (pc2 := 230) rfl ?_
  refine x_lshl dL_law_230 (pc2 := 231) rfl ?_
  refine x_aload_n dL_law_231 0 rfl rfl (pc2 := 232) rfl ?_
  refine x_iload dL_law_232 4 rfl (pc2 := 234) rfl ?_
  refine x_bipush (x := 6) dL_law_234 (by decide) (pc2 := 236) rfl ?_
  refine x_iadd dL_law_236 (pc2 := 237) rfl ?_
  refine x_sld dL_law_237 (by decide) (hw 6 (by decide)) rfl (pc2 := 238) rfl ?_
  refine x_i2l dL_law_238 (pc2 := 239) rfl ?_
  refine x_ldc2 (x := 4294967295) dL_law_239 (tgk (by decide +kernel) rfl) (pc2 := 242) rfl ?_
  refine x_land dL_law_242 (pc2 := 243) rfl ?_
  refine x_lor dL_law_243 (pc2 := 244) rfl ?_
  refine x_callVs (t_X11_feed (((xs (j + 1).toNatClampNeg).toInt64 <<< (((32 : Int32)).toInt64 &&& 63)) ||| ((xs (j + 2).toNatClampNeg).toInt64 &&& 4294967295)) (((xs (j + 3).toNatClampNeg).toInt64 <<< (((32 : Int32)).toInt64 &&& 63)) ||| ((xs (j + 4).toNatClampNeg).toInt64 &&& 4294967295)) (((xs (j + 5).toNatClampNeg).toInt64 <<< (((32 : Int32)).toInt64 &&& 63)) ||| ((xs (j + 6).toNatClampNeg).toInt64 &&& 4294967295)) u hc) dL_law_244 cv_L_21 rfl so_1 rc_10 ⟨by decide, by decide⟩ (by first | exact Nat.le_of_ble_eq_true rfl | simp [rva_cat, vc_i, vc_r, vc_l, vc_n]) hcs rfl (pc2 := 247) rfl ?_
  refine x_aload_n dL_law_247 2 rfl rfl (pc2 := 248) rfl ?_
  refine x_aload_n dL_law_248 0 rfl rfl (pc2 := 249) rfl ?_
  refine x_iload dL_law_249 4 rfl (pc2 := 251) rfl ?_
  refine x_iconst (x := 1) dL_law_251 (by decide) (pc2 := 252) rfl ?_
  refine x_iadd dL_law_252 (pc2 := 253) rfl ?_
  refine x_sld dL_law_253 (by decide) (hw 1 (by decide)) rfl (pc2 := 254) rfl ?_
  refine x_i2l dL_law_254 (pc2 := 255) rfl ?_
  refine x_bipush (x := 32) dL_law_255 (by decide) (pc2 := 257) rfl ?_
  refine x_lshl dL_law_257 (pc2 := 258) rfl ?_
  refine x_aload_n dL_law_258 0 rfl rfl (pc2 := 259) rfl ?_
  refine x_iload dL_law_259 4 rfl (pc2 := 261) rfl ?_
  refine x_iconst (x := 2) dL_law_261 (by decide) (pc2 := 262) rfl ?_
  refine x_iadd dL_law_262 (pc2 := 263) rfl ?_
  refine x_sld dL_law_263 (by decide) (hw 2 (by decide)) rfl (pc2 := 264) rfl ?_
  refine x_i2l dL_law_264 (pc2 := 265) rfl ?_
  refine x_ldc2 (x := 4294967295) dL_law_265 (tgk (by decide +kernel) rfl) (pc2 := 268) rfl ?_
  refine x_land dL_law_268 (pc2 := 269) rfl ?_
  refine x_lor dL_law_269 (pc2 := 270) rfl ?_
  refine x_aload_n dL_law_270 0 rfl rfl (pc2 := 271) rfl ?_
  refine x_iload dL_law_271 4 rfl (pc2 := 273) rfl ?_
  refine x_iconst (x := 3) dL_law_273 (by decide) (pc2 := 274) rfl ?_
  refine x_iadd dL_law_274 (pc2 := 275) rfl ?_
  refine x_sld dL_law_275 (by decide) (hw 3 (by decide)) rfl (pc2 := 276) rfl ?_
  refine x_i2l dL_law_276 (pc2 := 277) rfl ?_
  refine x_bipush (x := 32) dL_law_277 (by decide) (pc2 := 279) rfl ?_
  refine x_lshl dL_law_279 (pc2 := 280) rfl ?_
  refine x_aload_n dL_law_280 0 rfl rfl (pc2 := 281) rfl ?_
  refine x_iload dL_law_281 4 rfl (pc2 := 283) rfl ?_
  refine x_iconst (x := 4) dL_law_283 (by decide) (pc2 := 284) rfl ?_
  refine x_iadd dL_law_284 (pc2 := 285) rfl ?_
  refine x_sld dL_law_285 (by decide) (hw 4 (by decide)) rfl (pc2 := 286) rfl ?_
  refine x_i2l dL_law_286 (pc2 := 287) rfl ?_
  refine x_ldc2 (x := 4294967295) dL_law_287 (tgk (by decide +kernel) rfl) (pc2 := 290) rfl ?_
  refine x_land dL_law_290 (pc2 := 291) rfl ?_
  refine x_lor dL_law_291 (pc2 := 292) rfl ?_
  refine x_aload_n dL_law_292 0 rfl rfl (pc2 := 293) rfl ?_
  refine x_iload dL_law_293 4 rfl (pc2 := 295) rfl ?_
  refine x_iconst (x := 5) dL_law_295 (by decide) (pc2 := 296) rfl ?_
  refine x_iadd dL_law_296 (pc2 := 297) rfl ?_
  refine x_sld dL_law_297 (by decide) (hw 5 (by decide)) rfl (pc2 := 298) rfl ?_
  refine x_i2l dL_law_298 (pc2 := 299) rfl ?_
  refine x_bipush (x := 32) dL_law_299 (by decide) (pc2 := 301) rfl ?_
  refine x_lshl dL_law_301 (pc2 := 302) rfl ?_
  refine x_aload_n dL_law_302 0 rfl rfl (pc2 := 303) rfl ?_
  refine x_iload dL_law_303 4 rfl (pc2 := 305) rfl ?_
  refine x_bipush (x := 6) dL_law_305 (by decide) (pc2 := 307) rfl ?_
  refine x_iadd dL_law_307 (pc2 := 308) rfl ?_
  refine x_sld dL_law_308 (by decide) (hw 6 (by decide)) rfl (pc2 := 309) rfl ?_
  refine x_i2l dL_law_309 (pc2 := 310) rfl ?_
  refine x_ldc2 (x := 4294967295) dL_law_310 (tgk (by decide +kernel) rfl) (pc2 := 313) rfl ?_
  refine x_land dL_law_313 (pc2 := 314) rfl ?_
  refine x_lor dL_law_314 (pc2 := 315) rfl ?_
  refine x_callVs (t_X12_feed (((xs (j + 1).toNatClampNeg).toInt64 <<< (((32 : Int32)).toInt64 &&& 63)) ||| ((xs (j + 2).toNatClampNeg).toInt64 &&& 4294967295)) (((xs (j + 3).toNatClampNeg).toInt64 <<< (((32 : Int32)).toInt64 &&& 63)) ||| ((xs (j + 4).toNatClampNeg).toInt64 &&& 4294967295)) (((xs (j + 5).toNatClampNeg).toInt64 <<< (((32 : Int32)).toInt64 &&& 63)) ||| ((xs (j + 6).toNatClampNeg).toInt64 &&& 4294967295)) s' hm) dL_law_315 cv_L_25 rfl so_101 rc_11 ⟨by decide, by decide⟩ (by first | exact Nat.le_of_ble_eq_true rfl | simp [rva_cat, vc_i, vc_r, vc_l, vc_n]) hcs rfl (pc2 := 318) rfl ?_
  refine x_icmp_eq (tgt := 1259) dL_law_318 (by decide) (pc2 := 321) rfl (fun _ => ?_) (fun c => absurd rfl c)
  exact k t' E'
set_option maxRecDepth 20000 in
theorem lc_5_out (hw : WIN j L) (hcs : cc ≤ room_1.cells ∧ ss ≤ room_1.slots) (E : RE u) (k : ∀ u', RE u' → Ex room_1 (GW b L xs) Z miL_law 0 cc ss 1259 NF (LSj j) [] (hp u')) : Ex room_1 (GW b L xs) Z miL_law 0 cc ss 423 NF (LSj j) [] (hp u) := by
  by_cases z : (xs (j + 2).toNatClampNeg) = 0
  · obtain ⟨x, s', t', hc, hm, E'⟩ := law_out E (xs (j + 1).toNatClampNeg) 0
    refine x_aload_n dL_law_423 1 rfl rfl (pc2 := 424) rfl ?_
    refine x_aload_n dL_law_424 0 rfl rfl (pc2 := 425) rfl ?_
    refine x_iload dL_law_425 4 rfl (pc2 := 427) rfl ?_
    refine x_iconst (x := 1) dL_law_427 (by decide) (pc2 := 428) rfl ?_
    refine x_iadd dL_law_428 (pc2 := 429) rfl ?_
    refine x_sld dL_law_429 (by decide) (hw 1 (by decide)) rfl (pc2 := 430) rfl ?_
    refine x_aload_n dL_law_430 0 rfl rfl (pc2 := 431) rfl ?_
    refine x_iload dL_law_431 4 rfl (pc2 := 433) rfl ?_
    refine x_iconst (x := 2) dL_law_433 (by decide) (pc2 := 434) rfl ?_
    refine x_iadd dL_law_434 (pc2 := 435) rfl ?_
    refine x_sld dL_law_435 (by decide) (hw 2 (by decide)) rfl (pc2 := 436) rfl ?_
    refine x_if_eq (tgt := 443) dL_law_436 (by decide) (pc2 := 439) rfl (fun _ => ?_) (fun c => absurd z c)
    refine x_iconst (x := 0) dL_law_443 (by decide) (pc2 := 444) rfl ?_
    refine x_callVs (t_X11_out (xs (j + 1).toNatClampNeg) 0 u hc) dL_law_444 cv_L_43 rfl so_1 rc_10 ⟨by decide, by decide⟩ (by first | exact Nat.le_of_ble_eq_true rfl | simp [rva_cat, vc_i, vc_r, vc_l, vc_n]) hcs rfl (pc2 := 447) rfl ?_
    refine x_aload_n dL_law_447 2 rfl rfl (pc2 := 448) rfl ?_
    refine x_aload_n dL_law_448 0 rfl rfl (pc2 := 449) rfl ?_
    refine x_iload dL_law_449 4 rfl (pc2 := 451) rfl ?_
    refine x_iconst (x := 1) dL_law_451 (by decide) (pc2 := 452) rfl ?_
    refine x_iadd dL_law_452 (pc2 := 453) rfl ?_
    refine x_sld dL_law_453 (by decide) (hw 1 (by decide)) rfl (pc2 := 454) rfl ?_
    refine x_aload_n dL_law_454 0 rfl rfl (pc2 := 455) rfl ?_
    refine x_iload dL_law_455 4 rfl (pc2 := 457) rfl ?_
    refine x_iconst (x := 2) dL_law_457 (by decide) (pc2 := 458) rfl ?_
    refine x_iadd dL_law_458 (pc2 := 459) rfl ?_
    refine x_sld dL_law_459 (by decide) (hw 2 (by decide)) rfl (pc2 := 460) rfl ?_
    refine x_if_eq (tgt := 467) dL_law_460 (by decide) (pc2 := 463) rfl (fun _ => ?_) (fun c => absurd z c)
    refine x_iconst (x := 0) dL_law_467 (by decide) (pc2 := 468) rfl ?_
    refine x_callVs (t_X12_out (xs (j + 1).toNatClampNeg) 0 s' hm) dL_law_468 cv_L_47 rfl so_101 rc_11 ⟨by decide, by decide⟩ (by first | exact Nat.le_of_ble_eq_true rfl | simp [rva_cat, vc_i, vc_r, vc_l, vc_n]) hcs rfl (pc2 := 471) rfl ?_
    refine x_icmp_eq (tgt := 1259) dL_law_471 (by decide) (pc2 := 474) rfl (fun _ => ?_) (fun c => absurd rfl c)
    exact k t' E'
  · obtain ⟨x, s', t', hc, hm, E'⟩ := law_out E (xs (j + 1).toNatClampNeg) 1
    refine x_aload_n dL_law_423 1 rfl rfl (pc2 := 424) rfl ?_
    refine x_aload_n dL_law_424 0 rfl rfl (pc2 := 425) rfl ?_
    refine x_iload dL_law_425 4 rfl (pc2 := 427) rfl ?_
    refine x_iconst (x := 1) dL_law_427 (by decide) (pc2 := 428) rfl ?_
    refine x_iadd dL_law_428 (pc2 := 429) rfl ?_
    refine x_sld dL_law_429 (by decide) (hw 1 (by decide)) rfl (pc2 := 430) rfl ?_
    refine x_aload_n dL_law_430 0 rfl rfl (pc2 := 431) rfl ?_
    refine x_iload dL_law_431 4 rfl (pc2 := 433) rfl ?_
    refine x_iconst (x := 2) dL_law_433 (by decide) (pc2 := 434) rfl ?_
    refine x_iadd dL_law_434 (pc2 := 435) rfl ?_
    refine x_sld dL_law_435 (by decide) (hw 2 (by decide)) rfl (pc2 := 436) rfl ?_
    refine x_if_eq (tgt := 443) dL_law_436 (by decide) (pc2 := 439) rfl (fun c => absurd c z) (fun _ => ?_)
    refine x_iconst (x := 1) dL_law_439 (by decide) (pc2 := 440) rfl ?_
    refine x_goto (tgt := 444) dL_law_440 (by decide) ?_
    refine x_callVs (t_X11_out (xs (j + 1).toNatClampNeg) 1 u hc) dL_law_444 cv_L_43 rfl so_1 rc_10 ⟨by decide, by decide⟩ (by first | exact Nat.le_of_ble_eq_true rfl | simp [rva_cat, vc_i, vc_r, vc_l, vc_n]) hcs rfl (pc2 := 447) rfl ?_
    refine x_aload_n dL_law_447 2 rfl rfl (pc2 := 448) rfl ?_
    refine x_aload_n dL_law_448 0 rfl rfl (pc2 := 449) rfl ?_
    refine x_iload dL_law_449 4 rfl (pc2 := 451) rfl ?_
    refine x_iconst (x := 1) dL_law_451 (by decide) (pc2 := 452) rfl ?_
    refine x_iadd dL_law_452 (pc2 := 453) rfl ?_
    refine x_sld dL_law_453 (by decide) (hw 1 (by decide)) rfl (pc2 := 454) rfl ?_
    refine x_aload_n dL_law_454 0 rfl rfl (pc2 := 455) rfl ?_
    refine x_iload dL_law_455 4 rfl (pc2 := 457) rfl ?_
    refine x_iconst (x := 2) dL_law_457 (by decide) (pc2 := 458) rfl ?_
    refine x_iadd dL_law_458 (pc2 := 459) rfl ?_
    refine x_sld dL_law_459 (by decide) (hw 2 (by decide)) rfl (pc2 := 460) rfl ?_
    refine x_if_eq (tgt := 467) dL_law_460 (by decide) (pc2 := 463) rfl (fun c => absurd c z) (fun _ => ?_)
    refine x_iconst (x := 1) dL_law_463 (by decide) (pc2 := 464) rfl ?_
    refine x_goto (tgt := 468) dL_law_464 (by decide) ?_
    refine x_callVs (t_X12_out (xs (j + 1).toNatClampNeg) 1 s' hm) dL_law_468 cv_L_47 rfl so_101 rc_11 ⟨by decide, by decide⟩ (by first | exact Nat.le_of_ble_eq_true rfl | simp [rva_cat, vc_i, vc_r, vc_l, vc_n]) hcs rfl (pc2 := 471) rfl ?_
    refine x_icmp_eq (tgt := 1259) dL_law_471 (by decide) (pc2 := 474) rfl (fun _ => ?_) (fun c => absurd rfl c)
    exact k t' E'
set_option maxRecDepth 20000 in
theorem lc_18_best (hw : WIN j L) (hcs : cc ≤ room_1.cells ∧ ss ≤ room_1.slots) (E : RE u) (k : ∀ u', RE u' → Ex room_1 (GW b L xs) Z miL_law 0 cc ss 1259 NF (LSj j) [] (hp u')) : Ex room_1 (GW b L xs) Z miL_law 0 cc ss 843 NF (LSj j) [] (hp u) := by
  by_cases z : (xs (j + 2).toNatClampNeg) = 0
  · obtain ⟨x, s', t', hc, hm, E'⟩ := law_best E (xs (j + 1).toNatClampNeg) 0
    refine x_aload_n dL_law_843 1 rfl rfl (pc2 := 844) rfl ?_
    refine x_aload_n dL_law_844 0 rfl rfl (pc2 := 845) rfl ?_
    refine x_iload dL_law_845 4 rfl (pc2 := 847) rfl ?_
    refine x_iconst (x := 1) dL_law_847 (by decide) (pc2 := 848) rfl ?_
    refine x_iadd dL_law_848 (pc2 := 849) rfl ?_
    refine x_sld dL_law_849 (by decide) (hw 1 (by decide)) rfl (pc2 := 850) rfl ?_
    refine x_aload_n dL_law_850 0 rfl rfl (pc2 := 851) rfl ?_
    refine x_iload dL_law_851 4 rfl (pc2 := 853) rfl ?_
    refine x_iconst (x := 2) dL_law_853 (by decide) (pc2 := 854) rfl ?_
    refine x_iadd dL_law_854 (pc2 := 855) rfl ?_
    refine x_sld dL_law_855 (by decide) (hw 2 (by decide)) rfl (pc2 := 856) rfl ?_
    refine x_if_eq (tgt := 863) dL_law_856 (by decide) (pc2 := 859) rfl (fun _ => ?_) (fun c => absurd z c)
    refine x_iconst (x := 0) dL_law_863 (by decide) (pc2 := 864) rfl ?_
    refine x_callVs (t_X11_best (xs (j + 1).toNatClampNeg) 0 u hc) dL_law_864 cv_L_104 rfl so_1 rc_10 ⟨by decide, by decide⟩ (by first | exact Nat.le_of_ble_eq_true rfl | simp [rva_cat, vc_i, vc_r, vc_l, vc_n]) hcs rfl (pc2 := 867) rfl ?_
    refine x_aload_n dL_law_867 2 rfl rfl (pc2 := 868) rfl ?_
    refine x_aload_n dL_law_868 0 rfl rfl (pc2 := 869) rfl ?_
    refine x_iload dL_law_869 4 rfl (pc2 := 871) rfl ?_
    refine x_iconst (x := 1) dL_law_871 (by decide) (pc2 := 872) rfl ?_
    refine x_iadd dL_law_872 (pc2 := 873) rfl ?_
    refine x_sld dL_law_873 (by decide) (hw 1 (by decide)) rfl (pc2 := 874) rfl ?_
    refine x_aload_n dL_law_874 0 rfl rfl (pc2 := 875) rfl ?_
    refine x_iload dL_law_875 4 rfl (pc2 := 877) rfl ?_
    refine x_iconst (x := 2) dL_law_877 (by decide) (pc2 := 878) rfl ?_
    refine x_iadd dL_law_878 (pc2 := 879) rfl ?_
    refine x_sld dL_law_879 (by decide) (hw 2 (by decide)) rfl (pc2 := 880) rfl ?_
    refine x_if_eq (tgt := 887) dL_law_880 (by decide) (pc2 := 883) rfl (fun _ => ?_) (fun c => absurd z c)
    refine x_iconst (x := 0) dL_law_887 (by decide) (pc2 := 888) rfl ?_
    refine x_callVs (t_X12_best (xs (j + 1).toNatClampNeg) 0 s' hm) dL_law_888 cv_L_108 rfl so_101 rc_11 ⟨by decide, by decide⟩ (by first | exact Nat.le_of_ble_eq_true rfl | simp [rva_cat, vc_i, vc_r, vc_l, vc_n]) hcs rfl (pc2 := 891) rfl ?_
    refine x_icmp_eq (tgt := 1259) dL_law_891 (by decide) (pc2 := 894) rfl (fun _ => ?_) (fun c => absurd rfl c)
    exact k t' E'
  · obtain ⟨x, s', t', hc, hm, E'⟩ := law_best E (xs (j + 1).toNatClampNeg) 1
    refine x_aload_n dL_law_843 1 rfl rfl (pc2 := 844) rfl ?_
    refine x_aload_n dL_law_844 0 rfl rfl (pc2 := 845) rfl ?_
    refine x_iload dL_law_845 4 rfl (pc2 := 847) rfl ?_
    refine x_iconst (x := 1) dL_law_847 (by decide) (pc2 := 848) rfl ?_
    refine x_iadd dL_law_848 (pc2 := 849) rfl ?_
    refine x_sld dL_law_849 (by decide) (hw 1 (by decide)) rfl (pc2 := 850) rfl ?_
    refine x_aload_n dL_law_850 0 rfl rfl (pc2 := 851) rfl ?_
    refine x_iload dL_law_851 4 rfl (pc2 := 853) rfl ?_
    refine x_iconst (x := 2) dL_law_853 (by decide) (pc2 := 854) rfl ?_
    refine x_iadd dL_law_854 (pc2 := 855) rfl ?_
    refine x_sld dL_law_855 (by decide) (hw 2 (by decide)) rfl (pc2 := 856) rfl ?_
    refine x_if_eq (tgt := 863) dL_law_856 (by decide) (pc2 := 859) rfl (fun c => absurd c z) (fun _ => ?_)
    refine x_iconst (x := 1) dL_law_859 (by decide) (pc2 := 860) rfl ?_
    refine x_goto (tgt := 864) dL_law_860 (by decide) ?_
    refine x_callVs (t_X11_best (xs (j + 1).toNatClampNeg) 1 u hc) dL_law_864 cv_L_104 rfl so_1 rc_10 ⟨by decide, by decide⟩ (by first | exact Nat.le_of_ble_eq_true rfl | simp [rva_cat, vc_i, vc_r, vc_l, vc_n]) hcs rfl (pc2 := 867) rfl ?_
    refine x_aload_n dL_law_867 2 rfl rfl (pc2 := 868) rfl ?_
    refine x_aload_n dL_law_868 0 rfl rfl (pc2 := 869) rfl ?_
    refine x_iload dL_law_869 4 rfl (pc2 := 871) rfl ?_
    refine x_iconst (x := 1) dL_law_871 (by decide) (pc2 := 872) rfl ?_
    refine x_iadd dL_law_872 (pc2 := 873) rfl ?_
    refine x_sld dL_law_873 (by decide) (hw 1 (by decide)) rfl (pc2 := 874) rfl ?_
    refine x_aload_n dL_law_874 0 rfl rfl (pc2 := 875) rfl ?_
    refine x_iload dL_law_875 4 rfl (pc2 := 877) rfl ?_
    refine x_iconst (x := 2) dL_law_877 (by decide) (pc2 := 878) rfl ?_
    refine x_iadd dL_law_878 (pc2 := 879) rfl ?_
    refine x_sld dL_law_879 (by decide) (hw 2 (by decide)) rfl (pc2 := 880) rfl ?_
    refine x_if_eq (tgt := 887) dL_law_880 (by decide) (pc2 := 883) rfl (fun c => absurd c z) (fun _ => ?_)
    refine x_iconst (x := 1) dL_law_883 (by decide) (pc2 := 884) rfl ?_
    refine x_goto (tgt := 888) dL_law_884 (by decide) ?_
    refine x_callVs (t_X12_best (xs (j + 1).toNatClampNeg) 1 s' hm) dL_law_888 cv_L_108 rfl so_101 rc_11 ⟨by decide, by decide⟩ (by first | exact Nat.le_of_ble_eq_true rfl | simp [rva_cat, vc_i, vc_r, vc_l, vc_n]) hcs rfl (pc2 := 891) rfl ?_
    refine x_icmp_eq (tgt := 1259) dL_law_891 (by decide) (pc2 := 894) rfl (fun _ => ?_) (fun c => absurd rfl c)
    exact k t' E'
set_option maxRecDepth 20000 in
theorem lc_28_mark (hw : WIN j L) (hcs : cc ≤ room_1.cells ∧ ss ≤ room_1.slots) (E : RE u) (k : ∀ u', RE u' → Ex room_1 (GW b L xs) Z miL_law 0 cc ss 1259 NF (LSj j) [] (hp u')) : Ex room_1 (GW b L xs) Z miL_law 0 cc ss 1181 NF (LSj j) [] (hp u) := by
  by_cases z : (xs (j + 2).toNatClampNeg) = 0
  · obtain ⟨x, s', t', hc, hm, E'⟩ := law_mark E (xs (j + 1).toNatClampNeg) 0
    refine x_aload_n dL_law_1181 1 rfl rfl (pc2 := 1182) rfl ?_
    refine x_aload_n dL_law_1182 0 rfl rfl (pc2 := 1183) rfl ?_
    refine x_iload dL_law_1183 4 rfl (pc2 := 1185) rfl ?_
    refine x_iconst (x := 1) dL_law_1185 (by decide) (pc2 := 1186) rfl ?_
    refine x_iadd dL_law_1186 (pc2 := 1187) rfl ?_
    refine x_sld dL_law_1187 (by decide) (hw 1 (by decide)) rfl (pc2 := 1188) rfl ?_
    refine x_aload_n dL_law_1188 0 rfl rfl (pc2 := 1189) rfl ?_
    refine x_iload dL_law_1189 4 rfl (pc2 := 1191) rfl ?_
    refine x_iconst (x := 2) dL_law_1191 (by decide) (pc2 := 1192) rfl ?_
    refine x_iadd dL_law_1192 (pc2 := 1193) rfl ?_
    refine x_sld dL_law_1193 (by decide) (hw 2 (by decide)) rfl (pc2 := 1194) rfl ?_
    refine x_if_eq (tgt := 1201) dL_law_1194 (by decide) (pc2 := 1197) rfl (fun _ => ?_) (fun c => absurd z c)
    refine x_iconst (x := 0) dL_law_1201 (by decide) (pc2 := 1202) rfl ?_
    refine x_callVs (t_X11_mark (xs (j + 1).toNatClampNeg) 0 u hc) dL_law_1202 cv_L_146 rfl so_1 rc_10 ⟨by decide, by decide⟩ (by first | exact Nat.le_of_ble_eq_true rfl | simp [rva_cat, vc_i, vc_r, vc_l, vc_n]) hcs rfl (pc2 := 1205) rfl ?_
    refine x_aload_n dL_law_1205 2 rfl rfl (pc2 := 1206) rfl ?_
    refine x_aload_n dL_law_1206 0 rfl rfl (pc2 := 1207) rfl ?_
    refine x_iload dL_law_1207 4 rfl (pc2 := 1209) rfl ?_
    refine x_iconst (x := 1) dL_law_1209 (by decide) (pc2 := 1210) rfl ?_
    refine x_iadd dL_law_1210 (pc2 := 1211) rfl ?_
    refine x_sld dL_law_1211 (by decide) (hw 1 (by decide)) rfl (pc2 := 1212) rfl ?_
    refine x_aload_n dL_law_1212 0 rfl rfl (pc2 := 1213) rfl ?_
    refine x_iload dL_law_1213 4 rfl (pc2 := 1215) rfl ?_
    refine x_iconst (x := 2) dL_law_1215 (by decide) (pc2 := 1216) rfl ?_
    refine x_iadd dL_law_1216 (pc2 := 1217) rfl ?_
    refine x_sld dL_law_1217 (by decide) (hw 2 (by decide)) rfl (pc2 := 1218) rfl ?_
    refine x_if_eq (tgt := 1225) dL_law_1218 (by decide) (pc2 := 1221) rfl (fun _ => ?_) (fun c => absurd z c)
    refine x_iconst (x := 0) dL_law_1225 (by decide) (pc2 := 1226) rfl ?_
    refine x_callVs (t_X12_mark (xs (j + 1).toNatClampNeg) 0 s' hm) dL_law_1226 cv_L_149 rfl so_101 rc_11 ⟨by decide, by decide⟩ (by first | exact Nat.le_of_ble_eq_true rfl | simp [rva_cat, vc_i, vc_r, vc_l, vc_n]) hcs rfl (pc2 := 1229) rfl ?_
    refine x_icmp_eq (tgt := 1259) dL_law_1229 (by decide) (pc2 := 1232) rfl (fun _ => ?_) (fun c => absurd rfl c)
    exact k t' E'
  · obtain ⟨x, s', t', hc, hm, E'⟩ := law_mark E (xs (j + 1).toNatClampNeg) 1
    refine x_aload_n dL_law_1181 1 rfl rfl (pc2 := 1182) rfl ?_
    refine x_aload_n dL_law_1182 0 rfl rfl (pc2 := 1183) rfl ?_
    refine x_iload dL_law_1183 4 rfl (pc2 := 1185) rfl ?_
    refine x_iconst (x := 1) dL_law_1185 (by decide) (pc2 := 1186) rfl ?_
    refine x_iadd dL_law_1186 (pc2 := 1187) rfl ?_
    refine x_sld dL_law_1187 (by decide) (hw 1 (by decide)) rfl (pc2 := 1188) rfl ?_
    refine x_aload_n dL_law_1188 0 rfl rfl (pc2 := 1189) rfl ?_
    refine x_iload dL_law_1189 4 rfl (pc2 := 1191) rfl ?_
    refine x_iconst (x := 2) dL_law_1191 (by decide) (pc2 := 1192) rfl ?_
    refine x_iadd dL_law_1192 (pc2 := 1193) rfl ?_
    refine x_sld dL_law_1193 (by decide) (hw 2 (by decide)) rfl (pc2 := 1194) rfl ?_
    refine x_if_eq (tgt := 1201) dL_law_1194 (by decide) (pc2 := 1197) rfl (fun c => absurd c z) (fun _ => ?_)
    refine x_iconst (x := 1) dL_law_1197 (by decide) (pc2 := 1198) rfl ?_
    refine x_goto (tgt := 1202) dL_law_1198 (by decide) ?_
    refine x_callVs (t_X11_mark (xs (j + 1).toNatClampNeg) 1 u hc) dL_law_1202 cv_L_146 rfl so_1 rc_10 ⟨by decide, by decide⟩ (by first | exact Nat.le_of_ble_eq_true rfl | simp [rva_cat, vc_i, vc_r, vc_l, vc_n]) hcs rfl (pc2 := 1205) rfl ?_
    refine x_aload_n dL_law_1205 2 rfl rfl (pc2 := 1206) rfl ?_
    refine x_aload_n dL_law_1206 0 rfl rfl (pc2 := 1207) rfl ?_
    refine x_iload dL_law_1207 4 rfl (pc2 := 1209) rfl ?_
    refine x_iconst (x := 1) dL_law_1209 (by decide) (pc2 := 1210) rfl ?_
    refine x_iadd dL_law_1210 (pc2 := 1211) rfl ?_
    refine x_sld dL_law_1211 (by decide) (hw 1 (by decide)) rfl (pc2 := 1212) rfl ?_
    refine x_aload_n dL_law_1212 0 rfl rfl (pc2 := 1213) rfl ?_
    refine x_iload dL_law_1213 4 rfl (pc2 := 1215) rfl ?_
    refine x_iconst (x := 2) dL_law_1215 (by decide) (pc2 := 1216) rfl ?_
    refine x_iadd dL_law_1216 (pc2 := 1217) rfl ?_
    refine x_sld dL_law_1217 (by decide) (hw 2 (by decide)) rfl (pc2 := 1218) rfl ?_
    refine x_if_eq (tgt := 1225) dL_law_1218 (by decide) (pc2 := 1221) rfl (fun c => absurd c z) (fun _ => ?_)
    refine x_iconst (x := 1) dL_law_1221 (by decide) (pc2 := 1222) rfl ?_
    refine x_goto (tgt := 1226) dL_law_1222 (by decide) ?_
    refine x_callVs (t_X12_mark (xs (j + 1).toNatClampNeg) 1 s' hm) dL_law_1226 cv_L_149 rfl so_101 rc_11 ⟨by decide, by decide⟩ (by first | exact Nat.le_of_ble_eq_true rfl | simp [rva_cat, vc_i, vc_r, vc_l, vc_n]) hcs rfl (pc2 := 1229) rfl ?_
    refine x_icmp_eq (tgt := 1259) dL_law_1229 (by decide) (pc2 := 1232) rfl (fun _ => ?_) (fun c => absurd rfl c)
    exact k t' E'
end LCASE2
