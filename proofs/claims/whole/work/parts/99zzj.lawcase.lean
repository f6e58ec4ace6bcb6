/-! The law's cases, by program (tools/genlaw.py) -/
abbrev LSj (j : Int32) : List (Nat × Value) := [(0, .ref 500), (1, .ref 1), (2, .ref 101), (3, .ref 158), (4, .int j)]
def WIN (j : Int32) (L : Nat) : Prop := ∀ k : Int32, k ∈ ([1, 2, 3, 4, 5, 6] : List Int32) → vp_in (j + k) L
section LCASE
variable {Z : ZT} {b L : Nat} {xs : Nat → Int32} {j : Int32} {cc ss : Nat} {u : HS}
set_option maxRecDepth 20000 in
theorem lc_1_junction (hw : WIN j L) (hcs : cc ≤ room_1.cells ∧ ss ≤ room_1.slots) (E : RE u) (k : ∀ u', RE u' → Ex room_1 (GW b L xs) Z miL_law 0 cc ss 1259 NF (LSj j) [] (hp u')) : Ex room_1 (GW b L xs) Z miL_law 0 cc ss 323 NF (LSj j) [] (hp u) := by
  obtain ⟨x, s', t', hc, hm, E'⟩ := law_junction E 
  refine x_aload_n dL_law_323 1 rfl rfl (pc2 := 324) rfl ?_
  refine x_callVs (t_X11_junction  u hc) dL_law_324 cv_L_26 rfl so_1 rc_10 ⟨by decide, by decide⟩ (by first | exact Nat.le_of_ble_eq_true rfl | simp [rva_cat, vc_i, vc_r, vc_l, vc_n]) hcs rfl (pc2 := 327) rfl ?_
  refine x_aload_n dL_law_327 2 rfl rfl (pc2 := 328) rfl ?_
  refine x_callVs (t_X12_junction  s' hm) dL_law_328 cv_L_30 rfl so_101 rc_11 ⟨by decide, by decide⟩ (by first | exact Nat.le_of_ble_eq_true rfl | simp [rva_cat, vc_i, vc_r, vc_l, vc_n]) hcs rfl (pc2 := 331) rfl ?_
  refine x_icmp_eq (tgt := 1259) dL_law_331 (by decide) (pc2 := 334) rfl (fun _ => ?_) (fun c => absurd rfl c)
  exact k t' E'
set_option maxRecDepth 20000 in
theorem lc_2_days (hw : WIN j L) (hcs : cc ≤ room_1.cells ∧ ss ≤ room_1.slots) (E : RE u) (k : ∀ u', RE u' → Ex room_1 (GW b L xs) Z miL_law 0 cc ss 1259 NF (LSj j) [] (hp u')) : Ex room_1 (GW b L xs) Z miL_law 0 cc ss 336 NF (LSj j) [] (hp u) := by
  obtain ⟨x, s', t', hc, hm, E'⟩ := law_days E 
  refine x_aload_n dL_law_336 1 rfl rfl (pc2 := 337) rfl ?_
  refine x_callVs (t_X11_days  u hc) dL_law_337 cv_L_31 rfl so_1 rc_10 ⟨by decide, by decide⟩ (by first | exact Nat.le_of_ble_eq_true rfl | simp [rva_cat, vc_i, vc_r, vc_l, vc_n]) hcs rfl (pc2 := 340) rfl ?_
  refine x_aload_n dL_law_340 2 rfl rfl (pc2 := 341) rfl ?_
  refine x_callVs (t_X12_days  s' hm) dL_law_341 cv_L_34 rfl so_101 rc_11 ⟨by decide, by decide⟩ (by first | exact Nat.le_of_ble_eq_true rfl | simp [rva_cat, vc_i, vc_r, vc_l, vc_n]) hcs rfl (pc2 := 344) rfl ?_
  refine x_icmp_eq (tgt := 1259) dL_law_344 (by decide) (pc2 := 347) rfl (fun _ => ?_) (fun c => absurd rfl c)
  exact k t' E'
set_option maxRecDepth 20000 in
theorem lc_3_thing (hw : WIN j L) (hcs : cc ≤ room_1.cells ∧ ss ≤ room_1.slots) (E : RE u) (k : ∀ u', RE u' → Ex room_1 (GW b L xs) Z miL_law 0 cc ss 1259 NF (LSj j) [] (hp u')) : Ex room_1 (GW b L xs) Z miL_law 0 cc ss 349 NF (LSj j) [] (hp u) := by
  obtain ⟨x, t', hc, hm, E'⟩ := law_thing E (xs (j + 1).toNatClampNeg) (xs (j + 2).toNatClampNeg)
  refine x_aload_n dL_law_349 1 rfl rfl (pc2 := 350) rfl ?_
  refine x_aload_n dL_law_350 0 rfl rfl (pc2 := 351) rfl ?_
  refine x_iload dL_law_351 4 rfl (pc2 := 353) rfl ?_
  refine x_iconst (x := 1) dL_law_353 (by decide) (pc2 := 354) rfl ?_
  refine x_iadd dL_law_354 (pc2 := 355) rfl ?_
  refine x_sld dL_law_355 (by decide) (hw 1 (by decide)) rfl (pc2 := 356) rfl ?_
  refine x_aload_n dL_law_356 0 rfl rfl (pc2 := 357) rfl ?_
  refine x_iload dL_law_357 4 rfl (pc2 := 359) rfl ?_
  refine x_iconst (x := 2) dL_law_359 (by decide) (pc2 := 360) rfl ?_
  refine x_iadd dL_law_360 (pc2 := 361) rfl ?_
  refine x_sld dL_law_361 (by decide) (hw 2 (by decide)) rfl (pc2 := 362) rfl ?_
  refine x_callVs (t_X11_thing (xs (j + 1).toNatClampNeg) (xs (j + 2).toNatClampNeg) u hc) dL_law_362 cv_L_35 rfl so_1 rc_10 ⟨by decide, by decide⟩ (by first | exact Nat.le_of_ble_eq_true rfl | simp [rva_cat, vc_i, vc_r, vc_l, vc_n]) hcs rfl (pc2 := 365) rfl ?_
  refine x_aload_n dL_law_365 2 rfl rfl (pc2 := 366) rfl ?_
  refine x_aload_n dL_law_366 0 rfl rfl (pc2 := 367) rfl ?_
  refine x_iload dL_law_367 4 rfl (pc2 := 369) rfl ?_
  refine x_iconst (x := 1) dL_law_369 (by decide) (pc2 := 370) rfl ?_
  refine x_iadd dL_law_370 (pc2 := 371) rfl ?_
  refine x_sld dL_law_371 (by decide) (hw 1 (by decide)) rfl (pc2 := 372) rfl ?_
  refine x_aload_n dL_law_372 0 rfl rfl (pc2 := 373) rfl ?_
  refine x_iload dL_law_373 4 rfl (pc2 := 375) rfl ?_
  refine x_iconst (x := 2) dL_law_375 (by decide) (pc2 := 376) rfl ?_
  refine x_iadd dL_law_376 (pc2 := 377) rfl ?_
  refine x_sld dL_law_377 (by decide) (hw 2 (by decide)) rfl (pc2 := 378) rfl ?_
  refine x_callVs (t_X12_thing (xs (j + 1).toNatClampNeg) (xs (j + 2).toNatClampNeg) u hm) dL_law_378 cv_L_38 rfl so_101 rc_11 ⟨by decide, by decide⟩ (by first | exact Nat.le_of_ble_eq_true rfl | simp [rva_cat, vc_i, vc_r, vc_l, vc_n]) hcs rfl (pc2 := 381) rfl ?_
  refine x_icmp_eq (tgt := 1259) dL_law_381 (by decide) (pc2 := 384) rfl (fun _ => ?_) (fun c => absurd rfl c)
  exact k t' E'
set_option maxRecDepth 20000 in
theorem lc_4_buyer (hw : WIN j L) (hcs : cc ≤ room_1.cells ∧ ss ≤ room_1.slots) (E : RE u) (k : ∀ u', RE u' → Ex room_1 (GW b L xs) Z miL_law 0 cc ss 1259 NF (LSj j) [] (hp u')) : Ex room_1 (GW b L xs) Z miL_law 0 cc ss 386 NF (LSj j) [] (hp u) := by
  obtain ⟨x, t', hc, hm, E'⟩ := law_buyer E (xs (j + 1).toNatClampNeg) (xs (j + 2).toNatClampNeg)
  refine x_aload_n dL_law_386 1 rfl rfl (pc2 := 387) rfl ?_
  refine x_aload_n dL_law_387 0 rfl rfl (pc2 := 388) rfl ?_
  refine x_iload dL_law_388 4 rfl (pc2 := 390) rfl ?_
  refine x_iconst (x := 1) dL_law_390 (by decide) (pc2 := 391) rfl ?_
  refine x_iadd dL_law_391 (pc2 := 392) rfl ?_
  refine x_sld dL_law_392 (by decide) (hw 1 (by decide)) rfl (pc2 := 393) rfl ?_
  refine x_aload_n dL_law_393 0 rfl rfl (pc2 := 394) rfl ?_
  refine x_iload dL_law_394 4 rfl (pc2 := 396) rfl ?_
  refine x_iconst (x := 2) dL_law_396 (by decide) (pc2 := 397) rfl ?_
  refine x_iadd dL_law_397 (pc2 := 398) rfl ?_
  refine x_sld dL_law_398 (by decide) (hw 2 (by decide)) rfl (pc2 := 399) rfl ?_
  refine x_callVs (t_X11_buyer (xs (j + 1).toNatClampNeg) (xs (j + 2).toNatClampNeg) u hc) dL_law_399 cv_L_39 rfl so_1 rc_10 ⟨by decide, by decide⟩ (by first | exact Nat.le_of_ble_eq_true rfl | simp [rva_cat, vc_i, vc_r, vc_l, vc_n]) hcs rfl (pc2 := 402) rfl ?_
  refine x_aload_n dL_law_402 2 rfl rfl (pc2 := 403) rfl ?_
  refine x_aload_n dL_law_403 0 rfl rfl (pc2 := 404) rfl ?_
  refine x_iload dL_law_404 4 rfl (pc2 := 406) rfl ?_
  refine x_iconst (x := 1) dL_law_406 (by decide) (pc2 := 407) rfl ?_
  refine x_iadd dL_law_407 (pc2 := 408) rfl ?_
  refine x_sld dL_law_408 (by decide) (hw 1 (by decide)) rfl (pc2 := 409) rfl ?_
  refine x_aload_n dL_law_409 0 rfl rfl (pc2 := 410) rfl ?_
  refine x_iload dL_law_410 4 rfl (pc2 := 412) rfl ?_
  refine x_iconst (x := 2) dL_law_412 (by decide) (pc2 := 413) rfl ?_
  refine x_iadd dL_law_413 (pc2 := 414) rfl ?_
  refine x_sld dL_law_414 (by decide) (hw 2 (by decide)) rfl (pc2 := 415) rfl ?_
  refine x_callVs (t_X12_buyer (xs (j + 1).toNatClampNeg) (xs (j + 2).toNatClampNeg) u hm) dL_law_415 cv_L_42 rfl so_101 rc_11 ⟨by decide, by decide⟩ (by first | exact Nat.le_of_ble_eq_true rfl | simp [rva_cat, vc_i, vc_r, vc_l, vc_n]) hcs rfl (pc2 := 418) rfl ?_
  refine x_icmp_eq (tgt := 1259) dL_law_418 (by decide) (pc2 := 421) rfl (fun _ => ?_) (fun c => absurd rfl c)
  exact k t' E'
set_option maxRecDepth 20000 in
theorem lc_6_set (hw : WIN j L) (hcs : cc ≤ room_1.cells ∧ ss ≤ room_1.slots) (E : RE u) (k : ∀ u', RE u' → Ex room_1 (GW b L xs) Z miL_law 0 cc ss 1259 NF (LSj j) [] (hp u')) : Ex room_1 (GW b L xs) Z miL_law 0 cc ss 476 NF (LSj j) [] (hp u) := by
  obtain ⟨x, s', t', hc, hm, E'⟩ := law_set E (xs (j + 1).toNatClampNeg) (xs (j + 2).toNatClampNeg)
  refine x_aload_n dL_law_476 1 rfl rfl (pc2 := 477) rfl ?_
  refine x_aload_n dL_law_477 0 rfl rfl (pc2 := 478) rfl ?_
  refine x_iload dL_law_478 4 rfl (pc2 := 480) rfl ?_
  refine x_iconst (x := 1) dL_law_480 (by decide) (pc2 := 481) rfl ?_
  refine x_iadd dL_law_481 (pc2 := 482) rfl ?_
  refine x_sld dL_law_482 (by decide) (hw 1 (by decide)) rfl (pc2 := 483) rfl ?_
  refine x_aload_n dL_law_483 0 rfl rfl (pc2 := 484) rfl ?_
  refine x_iload dL_law_484 4 rfl (pc2 := 486) rfl ?_
  refine x_iconst (x := 2) dL_law_486 (by decide) (pc2 := 487) rfl ?_
  refine x_iadd dL_law_487 (pc2 := 488) rfl ?_
  refine x_sld dL_law_488 (by decide) (hw 2 (by decide)) rfl (pc2 := 489) rfl ?_
  refine x_callVs (t_X11_set (xs (j + 1).toNatClampNeg) (xs (j + 2).toNatClampNeg) u hc) dL_law_489 cv_L_48 rfl so_1 rc_10 ⟨by decide, by decide⟩ (by first | exact Nat.le_of_ble_eq_true rfl | simp [rva_cat, vc_i, vc_r, vc_l, vc_n]) hcs rfl (pc2 := 492) rfl ?_
  refine x_aload_n dL_law_492 2 rfl rfl (pc2 := 493) rfl ?_
  refine x_aload_n dL_law_493 0 rfl rfl (pc2 := 494) rfl ?_
  refine x_iload dL_law_494 4 rfl (pc2 := 496) rfl ?_
  refine x_iconst (x := 1) dL_law_496 (by decide) (pc2 := 497) rfl ?_
  refine x_iadd dL_law_497 (pc2 := 498) rfl ?_
  refine x_sld dL_law_498 (by decide) (hw 1 (by decide)) rfl (pc2 := 499) rfl ?_
  refine x_aload_n dL_law_499 0 rfl rfl (pc2 := 500) rfl ?_
  refine x_iload dL_law_500 4 rfl (pc2 := 502) rfl ?_
  refine x_iconst (x := 2) dL_law_502 (by decide) (pc2 := 503) rfl ?_
  refine x_iadd dL_law_503 (pc2 := 504) rfl ?_
  refine x_sld dL_law_504 (by decide) (hw 2 (by decide)) rfl (pc2 := 505) rfl ?_
  refine x_callVs (t_X12_set (xs (j + 1).toNatClampNeg) (xs (j + 2).toNatClampNeg) s' hm) dL_law_505 cv_L_52 rfl so_101 rc_11 ⟨by decide, by decide⟩ (by first | exact Nat.le_of_ble_eq_true rfl | simp [rva_cat, vc_i, vc_r, vc_l, vc_n]) hcs rfl (pc2 := 508) rfl ?_
  refine x_icmp_eq (tgt := 1259) dL_law_508 (by decide) (pc2 := 511) rfl (fun _ => ?_) (fun c => absurd rfl c)
  exact k t' E'
set_option maxRecDepth 20000 in
theorem lc_7_heats (hw : WIN j L) (hcs : cc ≤ room_1.cells ∧ ss ≤ room_1.slots) (E : RE u) (k : ∀ u', RE u' → Ex room_1 (GW b L xs) Z miL_law 0 cc ss 1259 NF (LSj j) [] (hp u')) : Ex room_1 (GW b L xs) Z miL_law 0 cc ss 513 NF (LSj j) [] (hp u) := by
  obtain ⟨x, s', t', hc, hm, E'⟩ := law_heats E (xs (j + 1).toNatClampNeg) (xs (j + 2).toNatClampNeg)
  refine x_aload_n dL_law_513 1 rfl rfl (pc2 := 514) rfl ?_
  refine x_aload_n dL_law_514 0 rfl rfl (pc2 := 515) rfl ?_
  refine x_iload dL_law_515 4 rfl (pc2 := 517) rfl ?_
  refine x_iconst (x := 1) dL_law_517 (by decide) (pc2 := 518) rfl ?_
  refine x_iadd dL_law_518 (pc2 := 519) rfl ?_
  refine x_sld dL_law_519 (by decide) (hw 1 (by decide)) rfl (pc2 := 520) rfl ?_
  refine x_aload_n dL_law_520 0 rfl rfl (pc2 := 521) rfl ?_
  refine x_iload dL_law_521 4 rfl (pc2 := 523) rfl ?_
  refine x_iconst (x := 2) dL_law_523 (by decide) (pc2 := 524) rfl ?_
  refine x_iadd dL_law_524 (pc2 := 525) rfl ?_
  refine x_sld dL_law_525 (by decide) (hw 2 (by decide)) rfl (pc2 := 526) rfl ?_
  refine x_callVs (t_X11_heats (xs (j + 1).toNatClampNeg) (xs (j + 2).toNatClampNeg) u hc) dL_law_526 cv_L_53 rfl so_1 rc_10 ⟨by decide, by decide⟩ (by first | exact Nat.le_of_ble_eq_true rfl | simp [rva_cat, vc_i, vc_r, vc_l, vc_n]) hcs rfl (pc2 := 529) rfl ?_
  refine x_aload_n dL_law_529 2 rfl rfl (pc2 := 530) rfl ?_
  refine x_aload_n dL_law_530 0 rfl rfl (pc2 := 531) rfl ?_
  refine x_iload dL_law_531 4 rfl (pc2 := 533) rfl ?_
  refine x_iconst (x := 1) dL_law_533 (by decide) (pc2 := 534) rfl ?_
  refine x_iadd dL_law_534 (pc2 := 535) rfl ?_
  refine x_sld dL_law_535 (by decide) (hw 1 (by decide)) rfl (pc2 := 536) rfl ?_
  refine x_aload_n dL_law_536 0 rfl rfl (pc2 := 537) rfl ?_
  refine x_iload dL_law_537 4 rfl (pc2 := 539) rfl ?_
  refine x_iconst (x := 2) dL_law_539 (by decide) (pc2 := 540) rfl ?_
  refine x_iadd dL_law_540 (pc2 := 541) rfl ?_
  refine x_sld dL_law_541 (by decide) (hw 2 (by decide)) rfl (pc2 := 542) rfl ?_
  refine x_callVs (t_X12_heats (xs (j + 1).toNatClampNeg) (xs (j + 2).toNatClampNeg) s' hm) dL_law_542 cv_L_56 rfl so_101 rc_11 ⟨by decide, by decide⟩ (by first | exact Nat.le_of_ble_eq_true rfl | simp [rva_cat, vc_i, vc_r, vc_l, vc_n]) hcs rfl (pc2 := 545) rfl ?_
  refine x_icmp_eq (tgt := 1259) dL_law_545 (by decide) (pc2 := 548) rfl (fun _ => ?_) (fun c => absurd rfl c)
  exact k t' E'
set_option maxRecDepth 20000 in
theorem lc_8_undo (hw : WIN j L) (hcs : cc ≤ room_1.cells ∧ ss ≤ room_1.slots) (E : RE u) (k : ∀ u', RE u' → Ex room_1 (GW b L xs) Z miL_law 0 cc ss 1259 NF (LSj j) [] (hp u')) : Ex room_1 (GW b L xs) Z miL_law 0 cc ss 550 NF (LSj j) [] (hp u) := by
  obtain ⟨x, s', t', hc, hm, E'⟩ := law_undo E 
  refine x_aload_n dL_law_550 1 rfl rfl (pc2 := 551) rfl ?_
  refine x_callVs (t_X11_undo  u hc) dL_law_551 cv_L_57 rfl so_1 rc_10 ⟨by decide, by decide⟩ (by first | exact Nat.le_of_ble_eq_true rfl | simp [rva_cat, vc_i, vc_r, vc_l, vc_n]) hcs rfl (pc2 := 554) rfl ?_
  refine x_aload_n dL_law_554 2 rfl rfl (pc2 := 555) rfl ?_
  refine x_callVs (t_X12_undo  s' hm) dL_law_555 cv_L_61 rfl so_101 rc_11 ⟨by decide, by decide⟩ (by first | exact Nat.le_of_ble_eq_true rfl | simp [rva_cat, vc_i, vc_r, vc_l, vc_n]) hcs rfl (pc2 := 558) rfl ?_
  refine x_icmp_eq (tgt := 1259) dL_law_558 (by decide) (pc2 := 561) rfl (fun _ => ?_) (fun c => absurd rfl c)
  exact k t' E'
set_option maxRecDepth 20000 in
theorem lc_9_judged (hw : WIN j L) (hcs : cc ≤ room_1.cells ∧ ss ≤ room_1.slots) (E : RE u) (k : ∀ u', RE u' → Ex room_1 (GW b L xs) Z miL_law 0 cc ss 1259 NF (LSj j) [] (hp u')) : Ex room_1 (GW b L xs) Z miL_law 0 cc ss 563 NF (LSj j) [] (hp u) := by
  obtain ⟨x, s', t', hc, hm, E'⟩ := law_judged E (xs (j + 1).toNatClampNeg)
  refine x_aload_n dL_law_563 1 rfl rfl (pc2 := 564) rfl ?_
  refine x_aload_n dL_law_564 0 rfl rfl (pc2 := 565) rfl ?_
  refine x_iload dL_law_565 4 rfl (pc2 := 567) rfl ?_
  refine x_iconst (x := 1) dL_law_567 (by decide) (pc2 := 568) rfl ?_
  refine x_iadd dL_law_568 (pc2 := 569) rfl ?_
  refine x_sld dL_law_569 (by decide) (hw 1 (by decide)) rfl (pc2 := 570) rfl ?_
  refine x_callVs (t_X11_judged (xs (j + 1).toNatClampNeg) u hc) dL_law_570 cv_L_62 rfl so_1 rc_10 ⟨by decide, by decide⟩ (by first | exact Nat.le_of_ble_eq_true rfl | simp [rva_cat, vc_i, vc_r, vc_l, vc_n]) hcs rfl (pc2 := 573) rfl ?_
  refine x_aload_n dL_law_573 2 rfl rfl (pc2 := 574) rfl ?_
  refine x_aload_n dL_law_574 0 rfl rfl (pc2 := 575) rfl ?_
  refine x_iload dL_law_575 4 rfl (pc2 := 577) rfl ?_
  refine x_iconst (x := 1) dL_law_577 (by decide) (pc2 := 578) rfl ?_
  refine x_iadd dL_law_578 (pc2 := 579) rfl ?_
  refine x_sld dL_law_579 (by decide) (hw 1 (by decide)) rfl (pc2 := 580) rfl ?_
  refine x_callVs (t_X12_judged (xs (j + 1).toNatClampNeg) s' hm) dL_law_580 cv_L_66 rfl so_101 rc_11 ⟨by decide, by decide⟩ (by first | exact Nat.le_of_ble_eq_true rfl | simp [rva_cat, vc_i, vc_r, vc_l, vc_n]) hcs rfl (pc2 := 583) rfl ?_
  refine x_icmp_eq (tgt := 1259) dL_law_583 (by decide) (pc2 := 586) rfl (fun _ => ?_) (fun c => absurd rfl c)
  exact k t' E'
set_option maxRecDepth 20000 in
theorem lc_10_served (hw : WIN j L) (hcs : cc ≤ room_1.cells ∧ ss ≤ room_1.slots) (E : RE u) (k : ∀ u', RE u' → Ex room_1 (GW b L xs) Z miL_law 0 cc ss 1259 NF (LSj j) [] (hp u')) : Ex room_1 (GW b L xs) Z miL_law 0 cc ss 588 NF (LSj j) [] (hp u) := by
  obtain ⟨x, s', t', hc, hm, E'⟩ := law_served E (xs (j + 1).toNatClampNeg) (xs (j + 2).toNatClampNeg)
  refine x_aload_n dL_law_588 1 rfl rfl (pc2 := 589) rfl ?_
  refine x_aload_n dL_law_589 0 rfl rfl (pc2 := 590) rfl ?_
  refine x_iload dL_law_590 4 rfl (pc2 := 592) rfl ?_
  refine x_iconst (x := 1) dL_law_592 (by decide) (pc2 := 593) rfl ?_
  refine x_iadd dL_law_593 (pc2 := 594) rfl ?_
  refine x_sld dL_law_594 (by decide) (hw 1 (by decide)) rfl (pc2 := 595) rfl ?_
  refine x_aload_n dL_law_595 0 rfl rfl (pc2 := 596) rfl ?_
  refine x_iload dL_law_596 4 rfl (pc2 := 598) rfl ?_
  refine x_iconst (x := 2) dL_law_598 (by decide) (pc2 := 599) rfl ?_
  refine x_iadd dL_law_599 (pc2 := 600) rfl ?_
  refine x_sld dL_law_600 (by decide) (hw 2 (by decide)) rfl (pc2 := 601) rfl ?_
  refine x_callVs (t_X11_served (xs (j + 1).toNatClampNeg) (xs (j + 2).toNatClampNeg) u hc) dL_law_601 cv_L_67 rfl so_1 rc_10 ⟨by decide, by decide⟩ (by first | exact Nat.le_of_ble_eq_true rfl | simp [rva_cat, vc_i, vc_r, vc_l, vc_n]) hcs rfl (pc2 := 604) rfl ?_
  refine x_aload_n dL_law_604 2 rfl rfl (pc2 := 605) rfl ?_
  refine x_aload_n dL_law_605 0 rfl rfl (pc2 := 606) rfl ?_
  refine x_iload dL_law_606 4 rfl (pc2 := 608) rfl ?_
  refine x_iconst (x := 1) dL_law_608 (by decide) (pc2 := 609) rfl ?_
  refine x_iadd dL_law_609 (pc2 := 610) rfl ?_
  refine x_sld dL_law_610 (by decide) (hw 1 (by decide)) rfl (pc2 := 611) rfl ?_
  refine x_aload_n dL_law_611 0 rfl rfl (pc2 := 612) rfl ?_
  refine x_iload dL_law_612 4 rfl (pc2 := 614) rfl ?_
  refine x_iconst (x := 2) dL_law_614 (by decide) (pc2 := 615) rfl ?_
  refine x_iadd dL_law_615 (pc2 := 616) rfl ?_
  refine x_sld dL_law_616 (by decide) (hw 2 (by decide)) rfl (pc2 := 617) rfl ?_
  refine x_callVs (t_X12_served (xs (j + 1).toNatClampNeg) (xs (j + 2).toNatClampNeg) s' hm) dL_law_617 cv_L_70 rfl so_101 rc_11 ⟨by decide, by decide⟩ (by first | exact Nat.le_of_ble_eq_true rfl | simp [rva_cat, vc_i, vc_r, vc_l, vc_n]) hcs rfl (pc2 := 620) rfl ?_
  refine x_icmp_eq (tgt := 1259) dL_law_620 (by decide) (pc2 := 623) rfl (fun _ => ?_) (fun c => absurd rfl c)
  exact k t' E'
set_option maxRecDepth 20000 in
theorem lc_11_round (hw : WIN j L) (hcs : cc ≤ room_1.cells ∧ ss ≤ room_1.slots) (E : RE u) (k : ∀ u', RE u' → Ex room_1 (GW b L xs) Z miL_law 0 cc ss 1259 NF (LSj j) [] (hp u')) : Ex room_1 (GW b L xs) Z miL_law 0 cc ss 625 NF (LSj j) [] (hp u) := by
  obtain ⟨x, s', t', hc, hm, E'⟩ := law_round E (xs (j + 1).toNatClampNeg)
  refine x_aload_n dL_law_625 1 rfl rfl (pc2 := 626) rfl ?_
  refine x_aload_n dL_law_626 0 rfl rfl (pc2 := 627) rfl ?_
  refine x_iload dL_law_627 4 rfl (pc2 := 629) rfl ?_
  refine x_iconst (x := 1) dL_law_629 (by decide) (pc2 := 630) rfl ?_
  refine x_iadd dL_law_630 (pc2 := 631) rfl ?_
  refine x_sld dL_law_631 (by decide) (hw 1 (by decide)) rfl (pc2 := 632) rfl ?_
  refine x_callVs (t_X11_round (xs (j + 1).toNatClampNeg) u hc) dL_law_632 cv_L_71 rfl so_1 rc_10 ⟨by decide, by decide⟩ (by first | exact Nat.le_of_ble_eq_true rfl | simp [rva_cat, vc_i, vc_r, vc_l, vc_n]) hcs rfl (pc2 := 635) rfl ?_
  refine x_aload_n dL_law_635 2 rfl rfl (pc2 := 636) rfl ?_
  refine x_aload_n dL_law_636 0 rfl rfl (pc2 := 637) rfl ?_
  refine x_iload dL_law_637 4 rfl (pc2 := 639) rfl ?_
  refine x_iconst (x := 1) dL_law_639 (by decide) (pc2 := 640) rfl ?_
  refine x_iadd dL_law_640 (pc2 := 641) rfl ?_
  refine x_sld dL_law_641 (by decide) (hw 1 (by decide)) rfl (pc2 := 642) rfl ?_
  refine x_callVs (t_X12_round (xs (j + 1).toNatClampNeg) s' hm) dL_law_642 cv_L_74 rfl so_101 rc_11 ⟨by decide, by decide⟩ (by first | exact Nat.le_of_ble_eq_true rfl | simp [rva_cat, vc_i, vc_r, vc_l, vc_n]) hcs rfl (pc2 := 645) rfl ?_
  refine x_icmp_eq (tgt := 1259) dL_law_645 (by decide) (pc2 := 648) rfl (fun _ => ?_) (fun c => absurd rfl c)
  exact k t' E'
set_option maxRecDepth 20000 in
theorem lc_12_chance (hw : WIN j L) (hcs : cc ≤ room_1.cells ∧ ss ≤ room_1.slots) (E : RE u) (k : ∀ u', RE u' → Ex room_1 (GW b L xs) Z miL_law 0 cc ss 1259 NF (LSj j) [] (hp u')) : Ex room_1 (GW b L xs) Z miL_law 0 cc ss 650 NF (LSj j) [] (hp u) := by
  obtain ⟨x, s', t', hc, hm, E'⟩ := law_chance E (xs (j + 1).toNatClampNeg)
  refine x_aload_n dL_law_650 1 rfl rfl (pc2 := 651) rfl ?_
  refine x_aload_n dL_law_651 0 rfl rfl (pc2 := 652) rfl ?_
  refine x_iload dL_law_652 4 rfl (pc2 := 654) rfl ?_
  refine x_iconst (x := 1) dL_law_654 (by decide) (pc2 := 655) rfl ?_
  refine x_iadd dL_law_655 (pc2 := 656) rfl ?_
  refine x_sld dL_law_656 (by decide) (hw 1 (by decide)) rfl (pc2 := 657) rfl ?_
  refine x_callVs (t_X11_chance (xs (j + 1).toNatClampNeg) u hc) dL_law_657 cv_L_75 rfl so_1 rc_10 ⟨by decide, by decide⟩ (by first | exact Nat.le_of_ble_eq_true rfl | simp [rva_cat, vc_i, vc_r, vc_l, vc_n]) hcs rfl (pc2 := 660) rfl ?_
  refine x_aload_n dL_law_660 2 rfl rfl (pc2 := 661) rfl ?_
  refine x_aload_n dL_law_661 0 rfl rfl (pc2 := 662) rfl ?_
  refine x_iload dL_law_662 4 rfl (pc2 := 664) rfl ?_
  refine x_iconst (x := 1) dL_law_664 (by decide) (pc2 := 665) rfl ?_
  refine x_iadd dL_law_665 (pc2 := 666) rfl ?_
  refine x_sld dL_law_666 (by decide) (hw 1 (by decide)) rfl (pc2 := 667) rfl ?_
  refine x_callVs (t_X12_chance (xs (j + 1).toNatClampNeg) s' hm) dL_law_667 cv_L_78 rfl so_101 rc_11 ⟨by decide, by decide⟩ (by first | exact Nat.le_of_ble_eq_true rfl | simp [rva_cat, vc_i, vc_r, vc_l, vc_n]) hcs rfl (pc2 := 670) rfl ?_
  refine x_icmp_eq (tgt := 1259) dL_law_670 (by decide) (pc2 := 673) rfl (fun _ => ?_) (fun c => absurd rfl c)
  exact k t' E'
set_option maxRecDepth 20000 in
theorem lc_14_errand (hw : WIN j L) (hcs : cc ≤ room_1.cells ∧ ss ≤ room_1.slots) (E : RE u) (k : ∀ u', RE u' → Ex room_1 (GW b L xs) Z miL_law 0 cc ss 1259 NF (LSj j) [] (hp u')) : Ex room_1 (GW b L xs) Z miL_law 0 cc ss 743 NF (LSj j) [] (hp u) := by
  obtain ⟨x, s', t', hc, hm, E'⟩ := law_errand E (xs (j + 1).toNatClampNeg) (xs (j + 2).toNatClampNeg)
  refine x_aload_n dL_law_743 1 rfl rfl (pc2 := 744) rfl ?_
  refine x_aload_n dL_law_744 0 rfl rfl (pc2 := 745) rfl ?_
  refine x_iload dL_law_745 4 rfl (pc2 := 747) rfl ?_
  refine x_iconst (x := 1) dL_law_747 (by decide) (pc2 := 748) rfl ?_
  refine x_iadd dL_law_748 (pc2 := 749) rfl ?_
  refine x_sld dL_law_749 (by decide) (hw 1 (by decide)) rfl (pc2 := 750) rfl ?_
  refine x_aload_n dL_law_750 0 rfl rfl (pc2 := 751) rfl ?_
  refine x_iload dL_law_751 4 rfl (pc2 := 753) rfl ?_
  refine x_iconst (x := 2) dL_law_753 (by decide) (pc2 := 754) rfl ?_
  refine x_iadd dL_law_754 (pc2 := 755) rfl ?_
  refine x_sld dL_law_755 (by decide) (hw 2 (by decide)) rfl (pc2 := 756) rfl ?_
  refine x_callVs (t_X11_errand (xs (j + 1).toNatClampNeg) (xs (j + 2).toNatClampNeg) u hc) dL_law_756 cv_L_88 rfl so_1 rc_10 ⟨by decide, by decide⟩ (by first | exact Nat.le_of_ble_eq_true rfl | simp [rva_cat, vc_i, vc_r, vc_l, vc_n]) hcs rfl (pc2 := 759) rfl ?_
  refine x_aload_n dL_law_759 2 rfl rfl (pc2 := 760) rfl ?_
  refine x_aload_n dL_law_760 0 rfl rfl (pc2 := 761) rfl ?_
  refine x_iload dL_law_761 4 rfl (pc2 := 763) rfl ?_
  refine x_iconst (x := 1) dL_law_763 (by decide) (pc2 := 764) rfl ?_
  refine x_iadd dL_law_764 (pc2 := 765) rfl ?_
  refine x_sld dL_law_765 (by decide) (hw 1 (by decide)) rfl (pc2 := 766) rfl ?_
  refine x_aload_n dL_law_766 0 rfl rfl (pc2 := 767) rfl ?_
  refine x_iload dL_law_767 4 rfl (pc2 := 769) rfl ?_
  refine x_iconst (x := 2) dL_law_769 (by decide) (pc2 := 770) rfl ?_
  refine x_iadd dL_law_770 (pc2 := 771) rfl ?_
  refine x_sld dL_law_771 (by decide) (hw 2 (by decide)) rfl (pc2 := 772) rfl ?_
  refine x_callVs (t_X12_errand (xs (j + 1).toNatClampNeg) (xs (j + 2).toNatClampNeg) s' hm) dL_law_772 cv_L_91 rfl so_101 rc_11 ⟨by decide, by decide⟩ (by first | exact Nat.le_of_ble_eq_true rfl | simp [rva_cat, vc_i, vc_r, vc_l, vc_n]) hcs rfl (pc2 := 775) rfl ?_
  refine x_icmp_eq (tgt := 1259) dL_law_775 (by decide) (pc2 := 778) rfl (fun _ => ?_) (fun c => absurd rfl c)
  exact k t' E'
set_option maxRecDepth 20000 in
theorem lc_15_table (hw : WIN j L) (hcs : cc ≤ room_1.cells ∧ ss ≤ room_1.slots) (E : RE u) (k : ∀ u', RE u' → Ex room_1 (GW b L xs) Z miL_law 0 cc ss 1259 NF (LSj j) [] (hp u')) : Ex room_1 (GW b L xs) Z miL_law 0 cc ss 780 NF (LSj j) [] (hp u) := by
  obtain ⟨x, s', t', hc, hm, E'⟩ := law_table E (xs (j + 1).toNatClampNeg) (xs (j + 2).toNatClampNeg)
  refine x_aload_n dL_law_780 1 rfl rfl (pc2 := 781) rfl ?_
  refine x_aload_n dL_law_781 0 rfl rfl (pc2 := 782) rfl ?_
  refine x_iload dL_law_782 4 rfl (pc2 := 784) rfl ?_
  refine x_iconst (x := 1) dL_law_784 (by decide) (pc2 := 785) rfl ?_
  refine x_iadd dL_law_785 (pc2 := 786) rfl ?_
  refine x_sld dL_law_786 (by decide) (hw 1 (by decide)) rfl (pc2 := 787) rfl ?_
  refine x_aload_n dL_law_787 0 rfl rfl (pc2 := 788) rfl ?_
  refine x_iload dL_law_788 4 rfl (pc2 := 790) rfl ?_
  refine x_iconst (x := 2) dL_law_790 (by decide) (pc2 := 791) rfl ?_
  refine x_iadd dL_law_791 (pc2 := 792) rfl ?_
  refine x_sld dL_law_792 (by decide) (hw 2 (by decide)) rfl (pc2 := 793) rfl ?_
  refine x_callVs (t_X11_table (xs (j + 1).toNatClampNeg) (xs (j + 2).toNatClampNeg) u hc) dL_law_793 cv_L_92 rfl so_1 rc_10 ⟨by decide, by decide⟩ (by first | exact Nat.le_of_ble_eq_true rfl | simp [rva_cat, vc_i, vc_r, vc_l, vc_n]) hcs rfl (pc2 := 796) rfl ?_
  refine x_aload_n dL_law_796 2 rfl rfl (pc2 := 797) rfl ?_
  refine x_aload_n dL_law_797 0 rfl rfl (pc2 := 798) rfl ?_
  refine x_iload dL_law_798 4 rfl (pc2 := 800) rfl ?_
  refine x_iconst (x := 1) dL_law_800 (by decide) (pc2 := 801) rfl ?_
  refine x_iadd dL_law_801 (pc2 := 802) rfl ?_
  refine x_sld dL_law_802 (by decide) (hw 1 (by decide)) rfl (pc2 := 803) rfl ?_
  refine x_aload_n dL_law_803 0 rfl rfl (pc2 := 804) rfl ?_
  refine x_iload dL_law_804 4 rfl (pc2 := 806) rfl ?_
  refine x_iconst (x := 2) dL_law_806 (by decide) (pc2 := 807) rfl ?_
  refine x_iadd dL_law_807 (pc2 := 808) rfl ?_
  refine x_sld dL_law_808 (by decide) (hw 2 (by decide)) rfl (pc2 := 809) rfl ?_
  refine x_callVs (t_X12_table (xs (j + 1).toNatClampNeg) (xs (j + 2).toNatClampNeg) s' hm) dL_law_809 cv_L_95 rfl so_101 rc_11 ⟨by decide, by decide⟩ (by first | exact Nat.le_of_ble_eq_true rfl | simp [rva_cat, vc_i, vc_r, vc_l, vc_n]) hcs rfl (pc2 := 812) rfl ?_
  refine x_icmp_eq (tgt := 1259) dL_law_812 (by decide) (pc2 := 815) rfl (fun _ => ?_) (fun c => absurd rfl c)
  exact k t' E'
set_option maxRecDepth 20000 in
theorem lc_16_stand (hw : WIN j L) (hcs : cc ≤ room_1.cells ∧ ss ≤ room_1.slots) (E : RE u) (k : ∀ u', RE u' → Ex room_1 (GW b L xs) Z miL_law 0 cc ss 1259 NF (LSj j) [] (hp u')) : Ex room_1 (GW b L xs) Z miL_law 0 cc ss 817 NF (LSj j) [] (hp u) := by
  obtain ⟨x, s', t', hc, hm, E'⟩ := law_stand E 
  refine x_aload_n dL_law_817 1 rfl rfl (pc2 := 818) rfl ?_
  refine x_callVs (t_X11_stand  u hc) dL_law_818 cv_L_96 rfl so_1 rc_10 ⟨by decide, by decide⟩ (by first | exact Nat.le_of_ble_eq_true rfl | simp [rva_cat, vc_i, vc_r, vc_l, vc_n]) hcs rfl (pc2 := 821) rfl ?_
  refine x_aload_n dL_law_821 2 rfl rfl (pc2 := 822) rfl ?_
  refine x_callVs (t_X12_stand  s' hm) dL_law_822 cv_L_99 rfl so_101 rc_11 ⟨by decide, by decide⟩ (by first | exact Nat.le_of_ble_eq_true rfl | simp [rva_cat, vc_i, vc_r, vc_l, vc_n]) hcs rfl (pc2 := 825) rfl ?_
  refine x_icmp_eq (tgt := 1259) dL_law_825 (by decide) (pc2 := 828) rfl (fun _ => ?_) (fun c => absurd rfl c)
  exact k t' E'
set_option maxRecDepth 20000 in
theorem lc_17_ring (hw : WIN j L) (hcs : cc ≤ room_1.cells ∧ ss ≤ room_1.slots) (E : RE u) (k : ∀ u', RE u' → Ex room_1 (GW b L xs) Z miL_law 0 cc ss 1259 NF (LSj j) [] (hp u')) : Ex room_1 (GW b L xs) Z miL_law 0 cc ss 830 NF (LSj j) [] (hp u) := by
  obtain ⟨x, s', t', hc, hm, E'⟩ := law_ring E 
  refine x_aload_n dL_law_830 1 rfl rfl (pc2 := 831) rfl ?_
  refine x_callVs (t_X11_ring  u hc) dL_law_831 cv_L_100 rfl so_1 rc_10 ⟨by decide, by decide⟩ (by first | exact Nat.le_of_ble_eq_true rfl | simp [rva_cat, vc_i, vc_r, vc_l, vc_n]) hcs rfl (pc2 := 834) rfl ?_
  refine x_aload_n dL_law_834 2 rfl rfl (pc2 := 835) rfl ?_
  refine x_callVs (t_X12_ring  s' hm) dL_law_835 cv_L_103 rfl so_101 rc_11 ⟨by decide, by decide⟩ (by first | exact Nat.le_of_ble_eq_true rfl | simp [rva_cat, vc_i, vc_r, vc_l, vc_n]) hcs rfl (pc2 := 838) rfl ?_
  refine x_icmp_eq (tgt := 1259) dL_law_838 (by decide) (pc2 := 841) rfl (fun _ => ?_) (fun c => absurd rfl c)
  exact k t' E'
set_option maxRecDepth 20000 in
theorem lc_19_tray (hw : WIN j L) (hcs : cc ≤ room_1.cells ∧ ss ≤ room_1.slots) (E : RE u) (k : ∀ u', RE u' → Ex room_1 (GW b L xs) Z miL_law 0 cc ss 1259 NF (LSj j) [] (hp u')) : Ex room_1 (GW b L xs) Z miL_law 0 cc ss 896 NF (LSj j) [] (hp u) := by
  obtain ⟨x, t', hc, hm, E'⟩ := law_tray E (xs (j + 1).toNatClampNeg) (xs (j + 2).toNatClampNeg)
  refine x_aload_n dL_law_896 1 rfl rfl (pc2 := 897) rfl ?_
  refine x_aload_n dL_law_897 0 rfl rfl (pc2 := 898) rfl ?_
  refine x_iload dL_law_898 4 rfl (pc2 := 900) rfl ?_
  refine x_iconst (x := 1) dL_law_900 (by decide) (pc2 := 901) rfl ?_
  refine x_iadd dL_law_901 (pc2 := 902) rfl ?_
  refine x_sld dL_law_902 (by decide) (hw 1 (by decide)) rfl (pc2 := 903) rfl ?_
  refine x_aload_n dL_law_903 0 rfl rfl (pc2 := 904) rfl ?_
  refine x_iload dL_law_904 4 rfl (pc2 := 906) rfl ?_
  refine x_iconst (x := 2) dL_law_906 (by decide) (pc2 := 907) rfl ?_
  refine x_iadd dL_law_907 (pc2 := 908) rfl ?_
  refine x_sld dL_law_908 (by decide) (hw 2 (by decide)) rfl (pc2 := 909) rfl ?_
  refine x_callVs (t_X11_tray (xs (j + 1).toNatClampNeg) (xs (j + 2).toNatClampNeg) u hc) dL_law_909 cv_L_109 rfl so_1 rc_10 ⟨by decide, by decide⟩ (by first | exact Nat.le_of_ble_eq_true rfl | simp [rva_cat, vc_i, vc_r, vc_l, vc_n]) hcs rfl (pc2 := 912) rfl ?_
  refine x_aload_n dL_law_912 2 rfl rfl (pc2 := 913) rfl ?_
  refine x_aload_n dL_law_913 0 rfl rfl (pc2 := 914) rfl ?_
  refine x_iload dL_law_914 4 rfl (pc2 := 916) rfl ?_
  refine x_iconst (x := 1) dL_law_916 (by decide) (pc2 := 917) rfl ?_
  refine x_iadd dL_law_917 (pc2 := 918) rfl ?_
  refine x_sld dL_law_918 (by decide) (hw 1 (by decide)) rfl (pc2 := 919) rfl ?_
  refine x_aload_n dL_law_919 0 rfl rfl (pc2 := 920) rfl ?_
  refine x_iload dL_law_920 4 rfl (pc2 := 922) rfl ?_
  refine x_iconst (x := 2) dL_law_922 (by decide) (pc2 := 923) rfl ?_
  refine x_iadd dL_law_923 (pc2 := 924) rfl ?_
  refine x_sld dL_law_924 (by decide) (hw 2 (by decide)) rfl (pc2 := 925) rfl ?_
  refine x_callVs (t_X12_tray (xs (j + 1).toNatClampNeg) (xs (j + 2).toNatClampNeg) u hm) dL_law_925 cv_L_112 rfl so_101 rc_11 ⟨by decide, by decide⟩ (by first | exact Nat.le_of_ble_eq_true rfl | simp [rva_cat, vc_i, vc_r, vc_l, vc_n]) hcs rfl (pc2 := 928) rfl ?_
  refine x_icmp_eq (tgt := 1259) dL_law_928 (by decide) (pc2 := 931) rfl (fun _ => ?_) (fun c => absurd rfl c)
  exact k t' E'
set_option maxRecDepth 20000 in
theorem lc_20_price (hw : WIN j L) (hcs : cc ≤ room_1.cells ∧ ss ≤ room_1.slots) (E : RE u) (k : ∀ u', RE u' → Ex room_1 (GW b L xs) Z miL_law 0 cc ss 1259 NF (LSj j) [] (hp u')) : Ex room_1 (GW b L xs) Z miL_law 0 cc ss 933 NF (LSj j) [] (hp u) := by
  obtain ⟨x, t', hc, hm, E'⟩ := law_price E (xs (j + 1).toNatClampNeg)
  refine x_aload_n dL_law_933 1 rfl rfl (pc2 := 934) rfl ?_
  refine x_aload_n dL_law_934 0 rfl rfl (pc2 := 935) rfl ?_
  refine x_iload dL_law_935 4 rfl (pc2 := 937) rfl ?_
  refine x_iconst (x := 1) dL_law_937 (by decide) (pc2 := 938) rfl ?_
  refine x_iadd dL_law_938 (pc2 := 939) rfl ?_
  refine x_sld dL_law_939 (by decide) (hw 1 (by decide)) rfl (pc2 := 940) rfl ?_
  refine x_callVs (t_X11_price (xs (j + 1).toNatClampNeg) u hc) dL_law_940 cv_L_113 rfl so_1 rc_10 ⟨by decide, by decide⟩ (by first | exact Nat.le_of_ble_eq_true rfl | simp [rva_cat, vc_i, vc_r, vc_l, vc_n]) hcs rfl (pc2 := 943) rfl ?_
  refine x_aload_n dL_law_943 2 rfl rfl (pc2 := 944) rfl ?_
  refine x_aload_n dL_law_944 0 rfl rfl (pc2 := 945) rfl ?_
  refine x_iload dL_law_945 4 rfl (pc2 := 947) rfl ?_
  refine x_iconst (x := 1) dL_law_947 (by decide) (pc2 := 948) rfl ?_
  refine x_iadd dL_law_948 (pc2 := 949) rfl ?_
  refine x_sld dL_law_949 (by decide) (hw 1 (by decide)) rfl (pc2 := 950) rfl ?_
  refine x_callVs (t_X12_price (xs (j + 1).toNatClampNeg) u hm) dL_law_950 cv_L_116 rfl so_101 rc_11 ⟨by decide, by decide⟩ (by first | exact Nat.le_of_ble_eq_true rfl | simp [rva_cat, vc_i, vc_r, vc_l, vc_n]) hcs rfl (pc2 := 953) rfl ?_
  refine x_icmp_eq (tgt := 1259) dL_law_953 (by decide) (pc2 := 956) rfl (fun _ => ?_) (fun c => absurd rfl c)
  exact k t' E'
set_option maxRecDepth 20000 in
theorem lc_21_ahead (hw : WIN j L) (hcs : cc ≤ room_1.cells ∧ ss ≤ room_1.slots) (E : RE u) (k : ∀ u', RE u' → Ex room_1 (GW b L xs) Z miL_law 0 cc ss 1259 NF (LSj j) [] (hp u')) : Ex room_1 (GW b L xs) Z miL_law 0 cc ss 958 NF (LSj j) [] (hp u) := by
  obtain ⟨x, s', t', hc, hm, E'⟩ := law_ahead E (xs (j + 1).toNatClampNeg) (xs (j + 2).toNatClampNeg)
  refine x_aload_n dL_law_958 1 rfl rfl (pc2 := 959) rfl ?_
  refine x_aload_n dL_law_959 0 rfl rfl (pc2 := 960) rfl ?_
  refine x_iload dL_law_960 4 rfl (pc2 := 962) rfl ?_
  refine x_iconst (x := 1) dL_law_962 (by decide) (pc2 := 963) rfl ?_
  refine x_iadd dL_law_963 (pc2 := 964) rfl ?_
  refine x_sld dL_law_964 (by decide) (hw 1 (by decide)) rfl (pc2 := 965) rfl ?_
  refine x_aload_n dL_law_965 0 rfl rfl (pc2 := 966) rfl ?_
  refine x_iload dL_law_966 4 rfl (pc2 := 968) rfl ?_
  refine x_iconst (x := 2) dL_law_968 (by decide) (pc2 := 969) rfl ?_
  refine x_iadd dL_law_969 (pc2 := 970) rfl ?_
  refine x_sld dL_law_970 (by decide) (hw 2 (by decide)) rfl (pc2 := 971) rfl ?_
  refine x_callVs (t_X11_ahead (xs (j + 1).toNatClampNeg) (xs (j + 2).toNatClampNeg) u hc) dL_law_971 cv_L_117 rfl so_1 rc_10 ⟨by decide, by decide⟩ (by first | exact Nat.le_of_ble_eq_true rfl | simp [rva_cat, vc_i, vc_r, vc_l, vc_n]) hcs rfl (pc2 := 974) rfl ?_
  refine x_aload_n dL_law_974 2 rfl rfl (pc2 := 975) rfl ?_
  refine x_aload_n dL_law_975 0 rfl rfl (pc2 := 976) rfl ?_
  refine x_iload dL_law_976 4 rfl (pc2 := 978) rfl ?_
  refine x_iconst (x := 1) dL_law_978 (by decide) (pc2 := 979) rfl ?_
  refine x_iadd dL_law_979 (pc2 := 980) rfl ?_
  refine x_sld dL_law_980 (by decide) (hw 1 (by decide)) rfl (pc2 := 981) rfl ?_
  refine x_aload_n dL_law_981 0 rfl rfl (pc2 := 982) rfl ?_
  refine x_iload dL_law_982 4 rfl (pc2 := 984) rfl ?_
  refine x_iconst (x := 2) dL_law_984 (by decide) (pc2 := 985) rfl ?_
  refine x_iadd dL_law_985 (pc2 := 986) rfl ?_
  refine x_sld dL_law_986 (by decide) (hw 2 (by decide)) rfl (pc2 := 987) rfl ?_
  refine x_callVs (t_X12_ahead (xs (j + 1).toNatClampNeg) (xs (j + 2).toNatClampNeg) s' hm) dL_law_987 cv_L_120 rfl so_101 rc_11 ⟨by decide, by decide⟩ (by first | exact Nat.le_of_ble_eq_true rfl | simp [rva_cat, vc_i, vc_r, vc_l, vc_n]) hcs rfl (pc2 := 990) rfl ?_
  refine x_icmp_eq (tgt := 1259) dL_law_990 (by decide) (pc2 := 993) rfl (fun _ => ?_) (fun c => absurd rfl c)
  exact k t' E'
set_option maxRecDepth 20000 in
theorem lc_22_most (hw : WIN j L) (hcs : cc ≤ room_1.cells ∧ ss ≤ room_1.slots) (E : RE u) (k : ∀ u', RE u' → Ex room_1 (GW b L xs) Z miL_law 0 cc ss 1259 NF (LSj j) [] (hp u')) : Ex room_1 (GW b L xs) Z miL_law 0 cc ss 995 NF (LSj j) [] (hp u) := by
  obtain ⟨x, s', t', hc, hm, E'⟩ := law_most E (xs (j + 1).toNatClampNeg)
  refine x_aload_n dL_law_995 1 rfl rfl (pc2 := 996) rfl ?_
  refine x_aload_n dL_law_996 0 rfl rfl (pc2 := 997) rfl ?_
  refine x_iload dL_law_997 4 rfl (pc2 := 999) rfl ?_
  refine x_iconst (x := 1) dL_law_999 (by decide) (pc2 := 1000) rfl ?_
  refine x_iadd dL_law_1000 (pc2 := 1001) rfl ?_
  refine x_sld dL_law_1001 (by decide) (hw 1 (by decide)) rfl (pc2 := 1002) rfl ?_
  refine x_callVs (t_X11_most (xs (j + 1).toNatClampNeg) u hc) dL_law_1002 cv_L_121 rfl so_1 rc_10 ⟨by decide, by decide⟩ (by first | exact Nat.le_of_ble_eq_true rfl | simp [rva_cat, vc_i, vc_r, vc_l, vc_n]) hcs rfl (pc2 := 1005) rfl ?_
  refine x_aload_n dL_law_1005 2 rfl rfl (pc2 := 1006) rfl ?_
  refine x_aload_n dL_law_1006 0 rfl rfl (pc2 := 1007) rfl ?_
  refine x_iload dL_law_1007 4 rfl (pc2 := 1009) rfl ?_
  refine x_iconst (x := 1) dL_law_1009 (by decide) (pc2 := 1010) rfl ?_
  refine x_iadd dL_law_1010 (pc2 := 1011) rfl ?_
  refine x_sld dL_law_1011 (by decide) (hw 1 (by decide)) rfl (pc2 := 1012) rfl ?_
  refine x_callVs (t_X12_most (xs (j + 1).toNatClampNeg) s' hm) dL_law_1012 cv_L_124 rfl so_101 rc_11 ⟨by decide, by decide⟩ (by first | exact Nat.le_of_ble_eq_true rfl | simp [rva_cat, vc_i, vc_r, vc_l, vc_n]) hcs rfl (pc2 := 1015) rfl ?_
  refine x_icmp_eq (tgt := 1259) dL_law_1015 (by decide) (pc2 := 1018) rfl (fun _ => ?_) (fun c => absurd rfl c)
  exact k t' E'
set_option maxRecDepth 20000 in
theorem lc_23_sell (hw : WIN j L) (hcs : cc ≤ room_1.cells ∧ ss ≤ room_1.slots) (E : RE u) (k : ∀ u', RE u' → Ex room_1 (GW b L xs) Z miL_law 0 cc ss 1259 NF (LSj j) [] (hp u')) : Ex room_1 (GW b L xs) Z miL_law 0 cc ss 1020 NF (LSj j) [] (hp u) := by
  obtain ⟨x, s', t', hc, hm, E'⟩ := law_sell E (xs (j + 1).toNatClampNeg) (xs (j + 2).toNatClampNeg)
  refine x_aload_n dL_law_1020 1 rfl rfl (pc2 := 1021) rfl ?_
  refine x_aload_n dL_law_1021 0 rfl rfl (pc2 := 1022) rfl ?_
  refine x_iload dL_law_1022 4 rfl (pc2 := 1024) rfl ?_
  refine x_iconst (x := 1) dL_law_1024 (by decide) (pc2 := 1025) rfl ?_
  refine x_iadd dL_law_1025 (pc2 := 1026) rfl ?_
  refine x_sld dL_law_1026 (by decide) (hw 1 (by decide)) rfl (pc2 := 1027) rfl ?_
  refine x_aload_n dL_law_1027 0 rfl rfl (pc2 := 1028) rfl ?_
  refine x_iload dL_law_1028 4 rfl (pc2 := 1030) rfl ?_
  refine x_iconst (x := 2) dL_law_1030 (by decide) (pc2 := 1031) rfl ?_
  refine x_iadd dL_law_1031 (pc2 := 1032) rfl ?_
  refine x_sld dL_law_1032 (by decide) (hw 2 (by decide)) rfl (pc2 := 1033) rfl ?_
  refine x_callVs (t_X11_sell (xs (j + 1).toNatClampNeg) (xs (j + 2).toNatClampNeg) u hc) dL_law_1033 cv_L_125 rfl so_1 rc_10 ⟨by decide, by decide⟩ (by first | exact Nat.le_of_ble_eq_true rfl | simp [rva_cat, vc_i, vc_r, vc_l, vc_n]) hcs rfl (pc2 := 1036) rfl ?_
  refine x_aload_n dL_law_1036 2 rfl rfl (pc2 := 1037) rfl ?_
  refine x_aload_n dL_law_1037 0 rfl rfl (pc2 := 1038) rfl ?_
  refine x_iload dL_law_1038 4 rfl (pc2 := 1040) rfl ?_
  refine x_iconst (x := 1) dL_law_1040 (by decide) (pc2 := 1041) rfl ?_
  refine x_iadd dL_law_1041 (pc2 := 1042) rfl ?_
  refine x_sld dL_law_1042 (by decide) (hw 1 (by decide)) rfl (pc2 := 1043) rfl ?_
  refine x_aload_n dL_law_1043 0 rfl rfl (pc2 := 1044) rfl ?_
  refine x_iload dL_law_1044 4 rfl (pc2 := 1046) rfl ?_
  refine x_iconst (x := 2) dL_law_1046 (by decide) (pc2 := 1047) rfl ?_
  refine x_iadd dL_law_1047 (pc2 := 1048) rfl ?_
  refine x_sld dL_law_1048 (by decide) (hw 2 (by decide)) rfl (pc2 := 1049) rfl ?_
  refine x_callVs (t_X12_sell (xs (j + 1).toNatClampNeg) (xs (j + 2).toNatClampNeg) s' hm) dL_law_1049 cv_L_128 rfl so_101 rc_11 ⟨by decide, by decide⟩ (by first | exact Nat.le_of_ble_eq_true rfl | simp [rva_cat, vc_i, vc_r, vc_l, vc_n]) hcs rfl (pc2 := 1052) rfl ?_
  refine x_icmp_eq (tgt := 1259) dL_law_1052 (by decide) (pc2 := 1055) rfl (fun _ => ?_) (fun c => absurd rfl c)
  exact k t' E'
set_option maxRecDepth 20000 in
theorem lc_24_laws (hw : WIN j L) (hcs : cc ≤ room_1.cells ∧ ss ≤ room_1.slots) (E : RE u) (k : ∀ u', RE u' → Ex room_1 (GW b L xs) Z miL_law 0 cc ss 1259 NF (LSj j) [] (hp u')) : Ex room_1 (GW b L xs) Z miL_law 0 cc ss 1057 NF (LSj j) [] (hp u) := by
  obtain ⟨x, t', hc, hm, E'⟩ := law_laws E (xs (j + 1).toNatClampNeg)
  refine x_aload_n dL_law_1057 1 rfl rfl (pc2 := 1058) rfl ?_
  refine x_aload_n dL_law_1058 0 rfl rfl (pc2 := 1059) rfl ?_
  refine x_iload dL_law_1059 4 rfl (pc2 := 1061) rfl ?_
  refine x_iconst (x := 1) dL_law_1061 (by decide) (pc2 := 1062) rfl ?_
  refine x_iadd dL_law_1062 (pc2 := 1063) rfl ?_
  refine x_sld dL_law_1063 (by decide) (hw 1 (by decide)) rfl (pc2 := 1064) rfl ?_
  refine x_callVs (t_X11_laws (xs (j + 1).toNatClampNeg) u hc) dL_law_1064 cv_L_129 rfl so_1 rc_10 ⟨by decide, by decide⟩ (by first | exact Nat.le_of_ble_eq_true rfl | simp [rva_cat, vc_i, vc_r, vc_l, vc_n]) hcs rfl (pc2 := 1067) rfl ?_
  refine x_aload_n dL_law_1067 2 rfl rfl (pc2 := 1068) rfl ?_
  refine x_aload_n dL_law_1068 0 rfl rfl (pc2 := 1069) rfl ?_
  refine x_iload dL_law_1069 4 rfl (pc2 := 1071) rfl ?_
  refine x_iconst (x := 1) dL_law_1071 (by decide) (pc2 := 1072) rfl ?_
  refine x_iadd dL_law_1072 (pc2 := 1073) rfl ?_
  refine x_sld dL_law_1073 (by decide) (hw 1 (by decide)) rfl (pc2 := 1074) rfl ?_
  refine x_callVs (t_X12_laws (xs (j + 1).toNatClampNeg) u hm) dL_law_1074 cv_L_132 rfl so_101 rc_11 ⟨by decide, by decide⟩ (by first | exact Nat.le_of_ble_eq_true rfl | simp [rva_cat, vc_i, vc_r, vc_l, vc_n]) hcs rfl (pc2 := 1077) rfl ?_
  refine x_icmp_eq (tgt := 1259) dL_law_1077 (by decide) (pc2 := 1080) rfl (fun _ => ?_) (fun c => absurd rfl c)
  exact k t' E'
set_option maxRecDepth 20000 in
theorem lc_25_see (hw : WIN j L) (hcs : cc ≤ room_1.cells ∧ ss ≤ room_1.slots) (E : RE u) (k : ∀ u', RE u' → Ex room_1 (GW b L xs) Z miL_law 0 cc ss 1259 NF (LSj j) [] (hp u')) : Ex room_1 (GW b L xs) Z miL_law 0 cc ss 1082 NF (LSj j) [] (hp u) := by
  obtain ⟨x, s', t', hc, hm, E'⟩ := law_see E (xs (j + 1).toNatClampNeg) (xs (j + 2).toNatClampNeg)
  refine x_aload_n dL_law_1082 1 rfl rfl (pc2 := 1083) rfl ?_
  refine x_aload_n dL_law_1083 0 rfl rfl (pc2 := 1084) rfl ?_
  refine x_iload dL_law_1084 4 rfl (pc2 := 1086) rfl ?_
  refine x_iconst (x := 1) dL_law_1086 (by decide) (pc2 := 1087) rfl ?_
  refine x_iadd dL_law_1087 (pc2 := 1088) rfl ?_
  refine x_sld dL_law_1088 (by decide) (hw 1 (by decide)) rfl (pc2 := 1089) rfl ?_
  refine x_aload_n dL_law_1089 0 rfl rfl (pc2 := 1090) rfl ?_
  refine x_iload dL_law_1090 4 rfl (pc2 := 1092) rfl ?_
  refine x_iconst (x := 2) dL_law_1092 (by decide) (pc2 := 1093) rfl ?_
  refine x_iadd dL_law_1093 (pc2 := 1094) rfl ?_
  refine x_sld dL_law_1094 (by decide) (hw 2 (by decide)) rfl (pc2 := 1095) rfl ?_
  refine x_callVs (t_X11_see (xs (j + 1).toNatClampNeg) (xs (j + 2).toNatClampNeg) u hc) dL_law_1095 cv_L_133 rfl so_1 rc_10 ⟨by decide, by decide⟩ (by first | exact Nat.le_of_ble_eq_true rfl | simp [rva_cat, vc_i, vc_r, vc_l, vc_n]) hcs rfl (pc2 := 1098) rfl ?_
  refine x_aload_n dL_law_1098 2 rfl rfl (pc2 := 1099) rfl ?_
  refine x_aload_n dL_law_1099 0 rfl rfl (pc2 := 1100) rfl ?_
  refine x_iload dL_law_1100 4 rfl (pc2 := 1102) rfl ?_
  refine x_iconst (x := 1) dL_law_1102 (by decide) (pc2 := 1103) rfl ?_
  refine x_iadd dL_law_1103 (pc2 := 1104) rfl ?_
  refine x_sld dL_law_1104 (by decide) (hw 1 (by decide)) rfl (pc2 := 1105) rfl ?_
  refine x_aload_n dL_law_1105 0 rfl rfl (pc2 := 1106) rfl ?_
  refine x_iload dL_law_1106 4 rfl (pc2 := 1108) rfl ?_
  refine x_iconst (x := 2) dL_law_1108 (by decide) (pc2 := 1109) rfl ?_
  refine x_iadd dL_law_1109 (pc2 := 1110) rfl ?_
  refine x_sld dL_law_1110 (by decide) (hw 2 (by decide)) rfl (pc2 := 1111) rfl ?_
  refine x_callVs (t_X12_see (xs (j + 1).toNatClampNeg) (xs (j + 2).toNatClampNeg) s' hm) dL_law_1111 cv_L_136 rfl so_101 rc_11 ⟨by decide, by decide⟩ (by first | exact Nat.le_of_ble_eq_true rfl | simp [rva_cat, vc_i, vc_r, vc_l, vc_n]) hcs rfl (pc2 := 1114) rfl ?_
  refine x_icmp_eq (tgt := 1259) dL_law_1114 (by decide) (pc2 := 1117) rfl (fun _ => ?_) (fun c => absurd rfl c)
  exact k t' E'
set_option maxRecDepth 20000 in
theorem lc_26_was (hw : WIN j L) (hcs : cc ≤ room_1.cells ∧ ss ≤ room_1.slots) (E : RE u) (k : ∀ u', RE u' → Ex room_1 (GW b L xs) Z miL_law 0 cc ss 1259 NF (LSj j) [] (hp u')) : Ex room_1 (GW b L xs) Z miL_law 0 cc ss 1119 NF (LSj j) [] (hp u) := by
  obtain ⟨x, s', t', hc, hm, E'⟩ := law_was E 
  refine x_aload_n dL_law_1119 1 rfl rfl (pc2 := 1120) rfl ?_
  refine x_callVs (t_X11_was  u hc) dL_law_1120 cv_L_137 rfl so_1 rc_10 ⟨by decide, by decide⟩ (by first | exact Nat.le_of_ble_eq_true rfl | simp [rva_cat, vc_i, vc_r, vc_l, vc_n]) hcs rfl (pc2 := 1123) rfl ?_
  refine x_aload_n dL_law_1123 2 rfl rfl (pc2 := 1124) rfl ?_
  refine x_callVs (t_X12_was  s' hm) dL_law_1124 cv_L_140 rfl so_101 rc_11 ⟨by decide, by decide⟩ (by first | exact Nat.le_of_ble_eq_true rfl | simp [rva_cat, vc_i, vc_r, vc_l, vc_n]) hcs rfl (pc2 := 1127) rfl ?_
  refine x_icmp_eq (tgt := 1259) dL_law_1127 (by decide) (pc2 := 1130) rfl (fun _ => ?_) (fun c => absurd rfl c)
  exact k t' E'
set_option maxRecDepth 20000 in
theorem lc_27_years (hw : WIN j L) (hcs : cc ≤ room_1.cells ∧ ss ≤ room_1.slots) (E : RE u) (k : ∀ u', RE u' → Ex room_1 (GW b L xs) Z miL_law 0 cc ss 1259 NF (LSj j) [] (hp u')) : Ex room_1 (GW b L xs) Z miL_law 0 cc ss 1132 NF (LSj j) [] (hp u) := by
  obtain ⟨x, s', t', hc, hm, E'⟩ := law_years E (xs (j + 1).toNatClampNeg) (xs (j + 2).toNatClampNeg) (xs (j + 3).toNatClampNeg)
  refine x_aload_n dL_law_1132 1 rfl rfl (pc2 := 1133) rfl ?_
  refine x_aload_n dL_law_1133 0 rfl rfl (pc2 := 1134) rfl ?_
  refine x_iload dL_law_1134 4 rfl (pc2 := 1136) rfl ?_
  refine x_iconst (x := 1) dL_law_1136 (by decide) (pc2 := 1137) rfl ?_
  refine x_iadd dL_law_1137 (pc2 := 1138) rfl ?_
  refine x_sld dL_law_1138 (by decide) (hw 1 (by decide)) rfl (pc2 := 1139) rfl ?_
  refine x_aload_n dL_law_1139 0 rfl rfl (pc2 := 1140) rfl ?_
  refine x_iload dL_law_1140 4 rfl (pc2 := 1142) rfl ?_
  refine x_iconst (x := 2) dL_law_1142 (by decide) (pc2 := 1143) rfl ?_
  refine x_iadd dL_law_1143 (pc2 := 1144) rfl ?_
  refine x_sld dL_law_1144 (by decide) (hw 2 (by decide)) rfl (pc2 := 1145) rfl ?_
  refine x_aload_n dL_law_1145 0 rfl rfl (pc2 := 1146) rfl ?_
  refine x_iload dL_law_1146 4 rfl (pc2 := 1148) rfl ?_
  refine x_iconst (x := 3) dL_law_1148 (by decide) (pc2 := 1149) rfl ?_
  refine x_iadd dL_law_1149 (pc2 := 1150) rfl ?_
  refine x_sld dL_law_1150 (by decide) (hw 3 (by decide)) rfl (pc2 := 1151) rfl ?_
  refine x_callVs (t_X11_years (xs (j + 1).toNatClampNeg) (xs (j + 2).toNatClampNeg) (xs (j + 3).toNatClampNeg) u hc) dL_law_1151 cv_L_141 rfl so_1 rc_10 ⟨by decide, by decide⟩ (by first | exact Nat.le_of_ble_eq_true rfl | simp [rva_cat, vc_i, vc_r, vc_l, vc_n]) hcs rfl (pc2 := 1154) rfl ?_
  refine x_aload_n dL_law_1154 2 rfl rfl (pc2 := 1155) rfl ?_
  refine x_aload_n dL_law_1155 0 rfl rfl (pc2 := 1156) rfl ?_
  refine x_iload dL_law_1156 4 rfl (pc2 := 1158) rfl ?_
  refine x_iconst (x := 1) dL_law_1158 (by decide) (pc2 := 1159) rfl ?_
  refine x_iadd dL_law_1159 (pc2 := 1160) rfl ?_
  refine x_sld dL_law_1160 (by decide) (hw 1 (by decide)) rfl (pc2 := 1161) rfl ?_
  refine x_aload_n dL_law_1161 0 rfl rfl (pc2 := 1162) rfl ?_
  refine x_iload dL_law_1162 4 rfl (pc2 := 1164) rfl ?_
  refine x_iconst (x := 2) dL_law_1164 (by decide) (pc2 := 1165) rfl ?_
  refine x_iadd dL_law_1165 (pc2 := 1166) rfl ?_
  refine x_sld dL_law_1166 (by decide) (hw 2 (by decide)) rfl (pc2 := 1167) rfl ?_
  refine x_aload_n dL_law_1167 0 rfl rfl (pc2 := 1168) rfl ?_
  refine x_iload dL_law_1168 4 rfl (pc2 := 1170) rfl ?_
  refine x_iconst (x := 3) dL_law_1170 (by decide) (pc2 := 1171) rfl ?_
  refine x_iadd dL_law_1171 (pc2 := 1172) rfl ?_
  refine x_sld dL_law_1172 (by decide) (hw 3 (by decide)) rfl (pc2 := 1173) rfl ?_
  refine x_callVs (t_X12_years (xs (j + 1).toNatClampNeg) (xs (j + 2).toNatClampNeg) (xs (j + 3).toNatClampNeg) s' hm) dL_law_1173 cv_L_145 rfl so_101 rc_11 ⟨by decide, by decide⟩ (by first | exact Nat.le_of_ble_eq_true rfl | simp [rva_cat, vc_i, vc_r, vc_l, vc_n]) hcs rfl (pc2 := 1176) rfl ?_
  refine x_icmp_eq (tgt := 1259) dL_law_1176 (by decide) (pc2 := 1179) rfl (fun _ => ?_) (fun c => absurd rfl c)
  exact k t' E'
set_option maxRecDepth 20000 in
theorem lc_29_count (hw : WIN j L) (hcs : cc ≤ room_1.cells ∧ ss ≤ room_1.slots) (E : RE u) (k : ∀ u', RE u' → Ex room_1 (GW b L xs) Z miL_law 0 cc ss 1259 NF (LSj j) [] (hp u')) : Ex room_1 (GW b L xs) Z miL_law 0 cc ss 1234 NF (LSj j) [] (hp u) := by
  obtain ⟨x, t', hc, hm, E'⟩ := law_count E (xs (j + 1).toNatClampNeg)
  refine x_aload_n dL_law_1234 1 rfl rfl (pc2 := 1235) rfl ?_
  refine x_aload_n dL_law_1235 0 rfl rfl (pc2 := 1236) rfl ?_
  refine x_iload dL_law_1236 4 rfl (pc2 := 1238) rfl ?_
  refine x_iconst (x := 1) dL_law_1238 (by decide) (pc2 := 1239) rfl ?_
  refine x_iadd dL_law_1239 (pc2 := 1240) rfl ?_
  refine x_sld dL_law_1240 (by decide) (hw 1 (by decide)) rfl (pc2 := 1241) rfl ?_
  refine x_callVs (t_X11_count (xs (j + 1).toNatClampNeg) u hc) dL_law_1241 cv_L_150 rfl so_1 rc_10 ⟨by decide, by decide⟩ (by first | exact Nat.le_of_ble_eq_true rfl | simp [rva_cat, vc_i, vc_r, vc_l, vc_n]) hcs rfl (pc2 := 1244) rfl ?_
  refine x_aload_n dL_law_1244 2 rfl rfl (pc2 := 1245) rfl ?_
  refine x_aload_n dL_law_1245 0 rfl rfl (pc2 := 1246) rfl ?_
  refine x_iload dL_law_1246 4 rfl (pc2 := 1248) rfl ?_
  refine x_iconst (x := 1) dL_law_1248 (by decide) (pc2 := 1249) rfl ?_
  refine x_iadd dL_law_1249 (pc2 := 1250) rfl ?_
  refine x_sld dL_law_1250 (by decide) (hw 1 (by decide)) rfl (pc2 := 1251) rfl ?_
  refine x_callVs (t_X12_count (xs (j + 1).toNatClampNeg) u hm) dL_law_1251 cv_L_153 rfl so_101 rc_11 ⟨by decide, by decide⟩ (by first | exact Nat.le_of_ble_eq_true rfl | simp [rva_cat, vc_i, vc_r, vc_l, vc_n]) hcs rfl (pc2 := 1254) rfl ?_
  refine x_icmp_eq (tgt := 1259) dL_law_1254 (by decide) (pc2 := 1257) rfl (fun _ => ?_) (fun c => absurd rfl c)
  exact k t' E'
end LCASE
