abbrev DDX12_reads : Nat := 3
def f_X12_reads_j424 (v1 : Int32) (v2 : Int32) (k11 : Int32 → Int32 → HS → Option (Int32 × HS)) (s : HS) : Option (Int32 × HS) :=
  bnd (f_X12_nextToken s) fun s12 => k11 v1 v2 s12
set_option maxRecDepth 20000 in
set_option maxHeartbeats 2000000 in
theorem t_X12_reads_j424 (v1 : Int32) (v2 : Int32) (s : HS) {x : Int32} {t : HS} (k11 : Int32 → Int32 → HS → Option (Int32 × HS)) (hk11 : ∀ (a1 : Int32) (a2 : Int32) (s : HS), k11 a1 a2 s = some (x, t) → Ev DDX12_reads miX12_reads NF (some (.int x)) NF (hp t) 11 NF [(0, .ref 101), (1, .int a1), (2, .int a2)] [] (hp s)) (hf : f_X12_reads_j424 v1 v2 k11 s = some (x, t)) : Ev DDX12_reads miX12_reads NF (some (.int x)) NF (hp t) 424 NF [(0, .ref 101), (1, .int v1), (2, .int v2)] [] (hp s) := by
  refine e_aload_n dX12_reads_424 0 rfl rfl (pc2 := 425) rfl ?_
  obtain ⟨s12, hy11, hf⟩ := bnd_s hf
  refine e_callVn (t_X12_nextToken  s hy11) dX12_reads_425 cv_X12_263 rfl so_101 rc_11 (by decide) (by first | exact Nat.le_of_ble_eq_true rfl | simp [rva_cat, vc_i, vc_r, vc_l, vc_n]) nn0 rfl (pc2 := 428) rfl ?_
  refine e_goto (tgt := 11) dX12_reads_428 (by decide) ?_
  exact hk11 v1 v2 s12 hf
def f_X12_reads_j237 (v1 : Int32) (w0 : Int32) (k11 : Int32 → Int32 → HS → Option (Int32 × HS)) (s : HS) : Option (Int32 × HS) :=
  bnd (f_X12_puts w0 s) fun s10 => f_X12_reads_j424 v1 1 k11 s10
set_option maxRecDepth 20000 in
set_option maxHeartbeats 2000000 in
theorem t_X12_reads_j237 (v1 : Int32) (w0 : Int32) (s : HS) {x : Int32} {t : HS} (k11 : Int32 → Int32 → HS → Option (Int32 × HS)) (hk11 : ∀ (a1 : Int32) (a2 : Int32) (s : HS), k11 a1 a2 s = some (x, t) → Ev DDX12_reads miX12_reads NF (some (.int x)) NF (hp t) 11 NF [(0, .ref 101), (1, .int a1), (2, .int a2)] [] (hp s)) (hf : f_X12_reads_j237 v1 w0 k11 s = some (x, t)) : Ev DDX12_reads miX12_reads NF (some (.int x)) NF (hp t) 237 NF [(0, .ref 101), (1, .int v1)] [.int w0, .ref 101] (hp s) := by
  obtain ⟨s10, hy9, hf⟩ := bnd_s hf
  refine e_callVn (t_X12_puts w0 s hy9) dX12_reads_237 cv_X12_260 rfl so_101 rc_11 (by decide) (by first | exact Nat.le_of_ble_eq_true rfl | simp [rva_cat, vc_i, vc_r, vc_l, vc_n]) nn0 rfl (pc2 := 240) rfl ?_
  refine e_iconst (x := 1) dX12_reads_240 (by decide) (pc2 := 241) rfl ?_
  refine e_istore_n dX12_reads_241 rfl (by decide) rfl (ls' := [(0, .ref 101), (1, .int v1), (2, .int 1)]) [1, 2, 0] rfl (pc2 := 242) rfl ?_
  refine e_goto (tgt := 424) dX12_reads_242 (by decide) ?_
  exact t_X12_reads_j424 v1 1 s10 _ hk11 hf
def f_X12_reads_j206 (v1 : Int32) (k11 : Int32 → Int32 → HS → Option (Int32 × HS)) (s : HS) : Option (Int32 × HS) :=
  bnd (f_X12_isSign 43 s) fun y5 => (if y5 = 0 then bnd (f_X12_isSign 45 s) fun y7 => (if y7 = 0 then f_X12_reads_j237 v1 22 k11 s else f_X12_reads_j237 v1 21 k11 s) else f_X12_reads_j237 v1 20 k11 s)
set_option maxRecDepth 20000 in
set_option maxHeartbeats 2000000 in
theorem t_X12_reads_j206 (v1 : Int32) (s : HS) {x : Int32} {t : HS} (k11 : Int32 → Int32 → HS → Option (Int32 × HS)) (hk11 : ∀ (a1 : Int32) (a2 : Int32) (s : HS), k11 a1 a2 s = some (x, t) → Ev DDX12_reads miX12_reads NF (some (.int x)) NF (hp t) 11 NF [(0, .ref 101), (1, .int a1), (2, .int a2)] [] (hp s)) (hf : f_X12_reads_j206 v1 k11 s = some (x, t)) : Ev DDX12_reads miX12_reads NF (some (.int x)) NF (hp t) 206 NF [(0, .ref 101), (1, .int v1)] [] (hp s) := by
  refine e_aload_n dX12_reads_206 0 rfl rfl (pc2 := 207) rfl ?_
  refine e_aload_n dX12_reads_207 0 rfl rfl (pc2 := 208) rfl ?_
  refine e_bipush (x := 43) dX12_reads_208 (by decide) (pc2 := 210) rfl ?_
  obtain ⟨y5, hy5, hf⟩ := bnd_s hf
  refine e_callVs (t_X12_isSign 43 s hy5) dX12_reads_210 cv_X12_253 rfl so_101 rc_11 (by decide) (by first | exact Nat.le_of_ble_eq_true rfl | simp [rva_cat, vc_i, vc_r, vc_l, vc_n]) nn0 rfl (pc2 := 213) rfl ?_
  refine e_if_eq (tgt := 221) dX12_reads_213 (by decide) (pc2 := 216) rfl (fun c6 => ?_) (fun c6 => ?_)
  · have hf := if_t c6 hf
    refine e_aload_n dX12_reads_221 0 rfl rfl (pc2 := 222) rfl ?_
    refine e_bipush (x := 45) dX12_reads_222 (by decide) (pc2 := 224) rfl ?_
    obtain ⟨y7, hy7, hf⟩ := bnd_s hf
    refine e_callVs (t_X12_isSign 45 s hy7) dX12_reads_224 cv_X12_253 rfl so_101 rc_11 (by decide) (by first | exact Nat.le_of_ble_eq_true rfl | simp [rva_cat, vc_i, vc_r, vc_l, vc_n]) nn0 rfl (pc2 := 227) rfl ?_
    refine e_if_eq (tgt := 235) dX12_reads_227 (by decide) (pc2 := 230) rfl (fun c8 => ?_) (fun c8 => ?_)
    · have hf := if_t c8 hf
      refine e_bipush (x := 22) dX12_reads_235 (by decide) (pc2 := 237) rfl ?_
      exact t_X12_reads_j237 v1 22 s _ hk11 hf
    · have hf := if_f c8 hf
      refine e_bipush (x := 21) dX12_reads_230 (by decide) (pc2 := 232) rfl ?_
      refine e_goto (tgt := 237) dX12_reads_232 (by decide) ?_
      exact t_X12_reads_j237 v1 21 s _ hk11 hf
  · have hf := if_f c6 hf
    refine e_bipush (x := 20) dX12_reads_216 (by decide) (pc2 := 218) rfl ?_
    refine e_goto (tgt := 237) dX12_reads_218 (by decide) ?_
    exact t_X12_reads_j237 v1 20 s _ hk11 hf
def f_X12_reads_j342 (v1 : Int32) (w0 : Int32) (k11 : Int32 → Int32 → HS → Option (Int32 × HS)) (s : HS) : Option (Int32 × HS) :=
  bnd (f_X12_puts w0 s) fun s24 => gd (inb v1 7) (ltb (sI s24 124 (v1.toNatClampNeg) (vp_nar .boolean 0)) fun s25 => f_X12_reads_j424 v1 1 k11 s25)
set_option maxRecDepth 20000 in
set_option maxHeartbeats 2000000 in
theorem t_X12_reads_j342 (v1 : Int32) (w0 : Int32) (s : HS) {x : Int32} {t : HS} (k11 : Int32 → Int32 → HS → Option (Int32 × HS)) (hk11 : ∀ (a1 : Int32) (a2 : Int32) (s : HS), k11 a1 a2 s = some (x, t) → Ev DDX12_reads miX12_reads NF (some (.int x)) NF (hp t) 11 NF [(0, .ref 101), (1, .int a1), (2, .int a2)] [] (hp s)) (hf : f_X12_reads_j342 v1 w0 k11 s = some (x, t)) : Ev DDX12_reads miX12_reads NF (some (.int x)) NF (hp t) 342 NF [(0, .ref 101), (1, .int v1)] [.int w0, .ref 101] (hp s) := by
  obtain ⟨s24, hy23, hf⟩ := bnd_s hf
  refine e_callVn (t_X12_puts w0 s hy23) dX12_reads_342 cv_X12_260 rfl so_101 rc_11 (by decide) (by first | exact Nat.le_of_ble_eq_true rfl | simp [rva_cat, vc_i, vc_r, vc_l, vc_n]) nn0 rfl (pc2 := 345) rfl ?_
  refine e_aload_n dX12_reads_345 0 rfl rfl (pc2 := 346) rfl ?_
  refine e_getR (r := 124) fl_X12_77 dX12_reads_346 so_101 (rs_101_33 s24.2.2) (by decide) (pc2 := 349) rfl ?_
  refine e_iload_n dX12_reads_349 1 rfl rfl (pc2 := 350) rfl ?_
  refine e_iconst (x := 0) dX12_reads_350 (by decide) (pc2 := 351) rfl ?_
  obtain ⟨g26, hf⟩ := gd_some hf
  obtain ⟨s25, es25, hf⟩ := ltb_s hf
  refine e_zast dX12_reads_351 sa_124 (inb_v g26) (h2 := hp s25) (by rw [es25]; rfl) (pc2 := 352) rfl ?_
  refine e_iconst (x := 1) dX12_reads_352 (by decide) (pc2 := 353) rfl ?_
  refine e_istore_n dX12_reads_353 rfl (by decide) rfl (ls' := [(0, .ref 101), (1, .int v1), (2, .int 1)]) [1, 2, 0] rfl (pc2 := 354) rfl ?_
  refine e_goto (tgt := 424) dX12_reads_354 (by decide) ?_
  exact t_X12_reads_j424 v1 1 s25 _ hk11 hf
def f_X12_reads_j324 (v1 : Int32) (k11 : Int32 → Int32 → HS → Option (Int32 × HS)) (s : HS) : Option (Int32 × HS) :=
  (if (f_X12_isWord 1111 s) = 0 then f_X12_reads_j342 v1 27 k11 s else f_X12_reads_j342 v1 26 k11 s)
set_option maxRecDepth 20000 in
set_option maxHeartbeats 2000000 in
theorem t_X12_reads_j324 (v1 : Int32) (s : HS) {x : Int32} {t : HS} (k11 : Int32 → Int32 → HS → Option (Int32 × HS)) (hk11 : ∀ (a1 : Int32) (a2 : Int32) (s : HS), k11 a1 a2 s = some (x, t) → Ev DDX12_reads miX12_reads NF (some (.int x)) NF (hp t) 11 NF [(0, .ref 101), (1, .int a1), (2, .int a2)] [] (hp s)) (hf : f_X12_reads_j324 v1 k11 s = some (x, t)) : Ev DDX12_reads miX12_reads NF (some (.int x)) NF (hp t) 324 NF [(0, .ref 101), (1, .int v1)] [] (hp s) := by
  refine e_aload_n dX12_reads_324 0 rfl rfl (pc2 := 325) rfl ?_
  refine e_aload_n dX12_reads_325 0 rfl rfl (pc2 := 326) rfl ?_
  refine e_ldc2 dX12_reads_326 lk_X12_266 (pc2 := 329) rfl ?_
  refine e_callVs (t_X12_isWord 1111 s rfl) dX12_reads_329 cv_X12_249 rfl so_101 rc_11 (by decide) (by first | exact Nat.le_of_ble_eq_true rfl | simp [rva_cat, vc_i, vc_r, vc_l, vc_n]) nn0 rfl (pc2 := 332) rfl ?_
  refine e_if_eq (tgt := 340) dX12_reads_332 (by decide) (pc2 := 335) rfl (fun c22 => ?_) (fun c22 => ?_)
  · have hf := if_t c22 hf
    refine e_bipush (x := 27) dX12_reads_340 (by decide) (pc2 := 342) rfl ?_
    exact t_X12_reads_j342 v1 27 s _ hk11 hf
  · have hf := if_f c22 hf
    refine e_bipush (x := 26) dX12_reads_335 (by decide) (pc2 := 337) rfl ?_
    refine e_goto (tgt := 342) dX12_reads_337 (by decide) ?_
    exact t_X12_reads_j342 v1 26 s _ hk11 hf
def f_X12_reads_l379b (v1 : Int32) (v2 : Int32) (k379 : Int32 → HS → Option (Int32 × HS)) (k424 : Int32 → HS → Option (Int32 × HS)) (s : HS) : Option (Int32 × HS) :=
  (if v1 ≤ 0 then k424 v1 s else gd (inb v1 7) ((if (s.1 123 v1.toNatClampNeg) = 1 then ltb (v1 + (-1)) fun x37 => k379 x37 s else k424 v1 s)))
set_option maxRecDepth 20000 in
set_option maxHeartbeats 2000000 in
theorem t_X12_reads_l379b (v1 : Int32) (v2 : Int32) (s : HS) {x : Int32} {t : HS} (k379 : Int32 → HS → Option (Int32 × HS)) (hk379 : ∀ (a1 : Int32) (s : HS), k379 a1 s = some (x, t) → Ev DDX12_reads miX12_reads NF (some (.int x)) NF (hp t) 379 NF [(0, .ref 101), (1, .int a1), (2, .int v2)] [] (hp s)) (k424 : Int32 → HS → Option (Int32 × HS)) (hk424 : ∀ (a1 : Int32) (s : HS), k424 a1 s = some (x, t) → Ev DDX12_reads miX12_reads NF (some (.int x)) NF (hp t) 424 NF [(0, .ref 101), (1, .int a1), (2, .int v2)] [] (hp s)) (hf : f_X12_reads_l379b v1 v2 k379 k424 s = some (x, t)) : Ev DDX12_reads miX12_reads NF (some (.int x)) NF (hp t) 379 NF [(0, .ref 101), (1, .int v1), (2, .int v2)] [] (hp s) := by
  refine e_iload_n dX12_reads_379 1 rfl rfl (pc2 := 380) rfl ?_
  refine e_if_le (tgt := 424) dX12_reads_380 (by decide) (pc2 := 383) rfl (fun c34 => ?_) (fun c34 => ?_)
  · have hf := if_t c34 hf
    exact hk424 v1 s hf
  · have hf := if_f c34 hf
    refine e_aload_n dX12_reads_383 0 rfl rfl (pc2 := 384) rfl ?_
    refine e_getR (r := 123) fl_X12_74 dX12_reads_384 so_101 (rs_101_32 s.2.2) (by decide) (pc2 := 387) rfl ?_
    refine e_iload_n dX12_reads_387 1 rfl rfl (pc2 := 388) rfl ?_
    obtain ⟨g35, hf⟩ := gd_some hf
    refine e_iald dX12_reads_388 sa_123 (inb_v g35) (pc2 := 389) rfl ?_
    refine e_iconst (x := 1) dX12_reads_389 (by decide) (pc2 := 390) rfl ?_
    refine e_icmp_ne (tgt := 424) dX12_reads_390 (by decide) (pc2 := 393) rfl (fun c36 => ?_) (fun c36 => ?_)
    · have hf := if_f c36 hf
      exact hk424 v1 s hf
    · have hf := if_t c36 hf
      obtain ⟨x37, ex37, hf⟩ := ltb_s hf
      refine e_iinc dX12_reads_393 1 rfl (c9 := (-1)) (by decide) ex37.symm (by decide) (ls' := [(0, .ref 101), (1, .int x37), (2, .int v2)]) [1, 0, 2] rfl (pc2 := 396) rfl ?_
      refine e_goto (tgt := 379) dX12_reads_396 (by decide) ?_
      exact hk379 x37 s hf
def f_X12_reads_l379 (v2 : Int32) (k424 : Int32 → HS → Option (Int32 × HS)) : Nat → Int32 → HS → Option (Int32 × HS)
  | 0, _, _ => none
  | n + 1, v1, s => f_X12_reads_l379b v1 v2 (f_X12_reads_l379 v2 k424 n) k424 s
set_option maxRecDepth 20000 in
set_option maxHeartbeats 2000000 in
theorem t_X12_reads_l379 (v2 : Int32) {x : Int32} {t : HS} (k424 : Int32 → HS → Option (Int32 × HS)) (hk424 : ∀ (a1 : Int32) (s : HS), k424 a1 s = some (x, t) → Ev DDX12_reads miX12_reads NF (some (.int x)) NF (hp t) 424 NF [(0, .ref 101), (1, .int a1), (2, .int v2)] [] (hp s)) : ∀ (n : Nat) (v1 : Int32) (s : HS), f_X12_reads_l379 v2 k424 n v1 s = some (x, t) → Ev DDX12_reads miX12_reads NF (some (.int x)) NF (hp t) 379 NF [(0, .ref 101), (1, .int v1), (2, .int v2)] [] (hp s) := by
  intro n
  induction n with
  | zero =>
    intro v1 s hf
    have hf : none = some (x, t) := hf
    cases hf
  | succ n ih =>
    intro v1 s hf
    exact t_X12_reads_l379b v1 v2  s _ ih _ hk424 hf
def f_X12_reads_j424_10 (v1 : Int32) (v2 : Int32) (k11 : Int32 → Int32 → HS → Option (Int32 × HS)) (s : HS) : Option (Int32 × HS) :=
  bnd (f_X12_nextToken s) fun s41 => k11 v1 v2 s41
set_option maxRecDepth 20000 in
set_option maxHeartbeats 2000000 in
theorem t_X12_reads_j424_10 (v1 : Int32) (v2 : Int32) (s : HS) {x : Int32} {t : HS} (k11 : Int32 → Int32 → HS → Option (Int32 × HS)) (hk11 : ∀ (a1 : Int32) (a2 : Int32) (s : HS), k11 a1 a2 s = some (x, t) → Ev DDX12_reads miX12_reads NF (some (.int x)) NF (hp t) 11 NF [(0, .ref 101), (1, .int a1), (2, .int a2)] [] (hp s)) (hf : f_X12_reads_j424_10 v1 v2 k11 s = some (x, t)) : Ev DDX12_reads miX12_reads NF (some (.int x)) NF (hp t) 424 NF [(0, .ref 101), (1, .int v1), (2, .int v2)] [] (hp s) := by
  refine e_aload_n dX12_reads_424 0 rfl rfl (pc2 := 425) rfl ?_
  obtain ⟨s41, hy40, hf⟩ := bnd_s hf
  refine e_callVn (t_X12_nextToken  s hy40) dX12_reads_425 cv_X12_263 rfl so_101 rc_11 (by decide) (by first | exact Nat.le_of_ble_eq_true rfl | simp [rva_cat, vc_i, vc_r, vc_l, vc_n]) nn0 rfl (pc2 := 428) rfl ?_
  refine e_goto (tgt := 11) dX12_reads_428 (by decide) ?_
  exact hk11 v1 v2 s41 hf
def f_X12_reads_j304 (v1 : Int32) (v2 : Int32) (k11 : Int32 → Int32 → HS → Option (Int32 × HS)) (k399 : Int32 → HS → Option (Int32 × HS)) (s : HS) : Option (Int32 × HS) :=
  (if (f_X12_isWord 1111 s) = 0 then (if (f_X12_isWord 423 s) = 0 then bnd (f_X12_isSign 41 s) fun y28 => (if y28 = 0 then k399 v1 s else (if v1 ≤ 0 then k399 v1 s else bnd (f_X12_puts 29 s) fun s32 => ltb (v1 + (-1)) fun x33 => f_X12_reads_l379 v2 (fun v38 s39 => f_X12_reads_j424_10 v38 v2 k11 s39) FU x33 s32)) else f_X12_reads_j324 v1 k11 s) else f_X12_reads_j324 v1 k11 s)
set_option maxRecDepth 20000 in
set_option maxHeartbeats 2000000 in
theorem t_X12_reads_j304 (v1 : Int32) (v2 : Int32) (s : HS) {x : Int32} {t : HS} (k11 : Int32 → Int32 → HS → Option (Int32 × HS)) (hk11 : ∀ (a1 : Int32) (a2 : Int32) (s : HS), k11 a1 a2 s = some (x, t) → Ev DDX12_reads miX12_reads NF (some (.int x)) NF (hp t) 11 NF [(0, .ref 101), (1, .int a1), (2, .int a2)] [] (hp s)) (k399 : Int32 → HS → Option (Int32 × HS)) (hk399 : ∀ (a1 : Int32) (s : HS), k399 a1 s = some (x, t) → Ev DDX12_reads miX12_reads NF (some (.int x)) NF (hp t) 399 NF [(0, .ref 101), (1, .int a1)] [] (hp s)) (hf : f_X12_reads_j304 v1 v2 k11 k399 s = some (x, t)) : Ev DDX12_reads miX12_reads NF (some (.int x)) NF (hp t) 304 NF [(0, .ref 101), (1, .int v1), (2, .int v2)] [] (hp s) := by
  refine e_aload_n dX12_reads_304 0 rfl rfl (pc2 := 305) rfl ?_
  refine e_ldc2 dX12_reads_305 lk_X12_266 (pc2 := 308) rfl ?_
  refine e_callVs (t_X12_isWord 1111 s rfl) dX12_reads_308 cv_X12_249 rfl so_101 rc_11 (by decide) (by first | exact Nat.le_of_ble_eq_true rfl | simp [rva_cat, vc_i, vc_r, vc_l, vc_n]) nn0 rfl (pc2 := 311) rfl ?_
  refine e_if_ne (tgt := 324) dX12_reads_311 (by decide) (pc2 := 314) rfl (fun c21 => ?_) (fun c21 => ?_)
  · have hf := if_f c21 hf
    refine ev_sub [0, 1] rfl ?_
    exact t_X12_reads_j324 v1 s _ hk11 hf
  · have hf := if_t c21 hf
    refine e_aload_n dX12_reads_314 0 rfl rfl (pc2 := 315) rfl ?_
    refine e_ldc2 dX12_reads_315 lk_X12_268 (pc2 := 318) rfl ?_
    refine e_callVs (t_X12_isWord 423 s rfl) dX12_reads_318 cv_X12_249 rfl so_101 rc_11 (by decide) (by first | exact Nat.le_of_ble_eq_true rfl | simp [rva_cat, vc_i, vc_r, vc_l, vc_n]) nn0 rfl (pc2 := 321) rfl ?_
    refine e_if_eq (tgt := 357) dX12_reads_321 (by decide) (pc2 := 324) rfl (fun c27 => ?_) (fun c27 => ?_)
    · have hf := if_t c27 hf
      refine e_aload_n dX12_reads_357 0 rfl rfl (pc2 := 358) rfl ?_
      refine e_bipush (x := 41) dX12_reads_358 (by decide) (pc2 := 360) rfl ?_
      obtain ⟨y28, hy28, hf⟩ := bnd_s hf
      refine e_callVs (t_X12_isSign 41 s hy28) dX12_reads_360 cv_X12_253 rfl so_101 rc_11 (by decide) (by first | exact Nat.le_of_ble_eq_true rfl | simp [rva_cat, vc_i, vc_r, vc_l, vc_n]) nn0 rfl (pc2 := 363) rfl ?_
      refine e_if_eq (tgt := 399) dX12_reads_363 (by decide) (pc2 := 366) rfl (fun c29 => ?_) (fun c29 => ?_)
      · have hf := if_t c29 hf
        refine ev_sub [0, 1] rfl ?_
        exact hk399 v1 s hf
      · have hf := if_f c29 hf
        refine e_iload_n dX12_reads_366 1 rfl rfl (pc2 := 367) rfl ?_
        refine e_if_le (tgt := 399) dX12_reads_367 (by decide) (pc2 := 370) rfl (fun c30 => ?_) (fun c30 => ?_)
        · have hf := if_t c30 hf
          refine ev_sub [0, 1] rfl ?_
          exact hk399 v1 s hf
        · have hf := if_f c30 hf
          refine e_aload_n dX12_reads_370 0 rfl rfl (pc2 := 371) rfl ?_
          refine e_bipush (x := 29) dX12_reads_371 (by decide) (pc2 := 373) rfl ?_
          obtain ⟨s32, hy31, hf⟩ := bnd_s hf
          refine e_callVn (t_X12_puts 29 s hy31) dX12_reads_373 cv_X12_260 rfl so_101 rc_11 (by decide) (by first | exact Nat.le_of_ble_eq_true rfl | simp [rva_cat, vc_i, vc_r, vc_l, vc_n]) nn0 rfl (pc2 := 376) rfl ?_
          obtain ⟨x33, ex33, hf⟩ := ltb_s hf
          refine e_iinc dX12_reads_376 1 rfl (c9 := (-1)) (by decide) ex33.symm (by decide) (ls' := [(0, .ref 101), (1, .int x33), (2, .int v2)]) [1, 0, 2] rfl (pc2 := 379) rfl ?_
          refine t_X12_reads_l379 v2 _ ?_ FU x33 s32 hf
          · intro v38 s39 hf
            exact t_X12_reads_j424_10 v38 v2 s39 _ hk11 hf
    · have hf := if_f c27 hf
      refine ev_sub [0, 1] rfl ?_
      exact t_X12_reads_j324 v1 s _ hk11 hf
def f_X12_reads_j289 (v1 : Int32) (w0 : Int32) (k11 : Int32 → Int32 → HS → Option (Int32 × HS)) (s : HS) : Option (Int32 × HS) :=
  bnd (f_X12_puts w0 s) fun s45 => gd (inb v1 7) (ltb (sI s45 124 (v1.toNatClampNeg) (vp_nar .boolean 1)) fun s46 => f_X12_reads_j424 v1 1 k11 s46)
set_option maxRecDepth 20000 in
set_option maxHeartbeats 2000000 in
theorem t_X12_reads_j289 (v1 : Int32) (w0 : Int32) (s : HS) {x : Int32} {t : HS} (k11 : Int32 → Int32 → HS → Option (Int32 × HS)) (hk11 : ∀ (a1 : Int32) (a2 : Int32) (s : HS), k11 a1 a2 s = some (x, t) → Ev DDX12_reads miX12_reads NF (some (.int x)) NF (hp t) 11 NF [(0, .ref 101), (1, .int a1), (2, .int a2)] [] (hp s)) (hf : f_X12_reads_j289 v1 w0 k11 s = some (x, t)) : Ev DDX12_reads miX12_reads NF (some (.int x)) NF (hp t) 289 NF [(0, .ref 101), (1, .int v1)] [.int w0, .ref 101] (hp s) := by
  obtain ⟨s45, hy44, hf⟩ := bnd_s hf
  refine e_callVn (t_X12_puts w0 s hy44) dX12_reads_289 cv_X12_260 rfl so_101 rc_11 (by decide) (by first | exact Nat.le_of_ble_eq_true rfl | simp [rva_cat, vc_i, vc_r, vc_l, vc_n]) nn0 rfl (pc2 := 292) rfl ?_
  refine e_aload_n dX12_reads_292 0 rfl rfl (pc2 := 293) rfl ?_
  refine e_getR (r := 124) fl_X12_77 dX12_reads_293 so_101 (rs_101_33 s45.2.2) (by decide) (pc2 := 296) rfl ?_
  refine e_iload_n dX12_reads_296 1 rfl rfl (pc2 := 297) rfl ?_
  refine e_iconst (x := 1) dX12_reads_297 (by decide) (pc2 := 298) rfl ?_
  obtain ⟨g47, hf⟩ := gd_some hf
  obtain ⟨s46, es46, hf⟩ := ltb_s hf
  refine e_zast dX12_reads_298 sa_124 (inb_v g47) (h2 := hp s46) (by rw [es46]; rfl) (pc2 := 299) rfl ?_
  refine e_iconst (x := 1) dX12_reads_299 (by decide) (pc2 := 300) rfl ?_
  refine e_istore_n dX12_reads_300 rfl (by decide) rfl (ls' := [(0, .ref 101), (1, .int v1), (2, .int 1)]) [1, 2, 0] rfl (pc2 := 301) rfl ?_
  refine e_goto (tgt := 424) dX12_reads_301 (by decide) ?_
  exact t_X12_reads_j424 v1 1 s46 _ hk11 hf
def f_X12_reads_j263 (v1 : Int32) (v2 : Int32) (k11 : Int32 → Int32 → HS → Option (Int32 × HS)) (k399 : Int32 → HS → Option (Int32 × HS)) (s : HS) : Option (Int32 × HS) :=
  gd (inb v1 7) ((if (s.1 124 v1.toNatClampNeg) = 0 then bnd (f_X12_isSign 60 s) fun y42 => (if y42 = 0 then f_X12_reads_j289 v1 25 k11 s else f_X12_reads_j289 v1 24 k11 s) else f_X12_reads_j304 v1 v2 k11 k399 s))
set_option maxRecDepth 20000 in
set_option maxHeartbeats 2000000 in
theorem t_X12_reads_j263 (v1 : Int32) (v2 : Int32) (s : HS) {x : Int32} {t : HS} (k11 : Int32 → Int32 → HS → Option (Int32 × HS)) (hk11 : ∀ (a1 : Int32) (a2 : Int32) (s : HS), k11 a1 a2 s = some (x, t) → Ev DDX12_reads miX12_reads NF (some (.int x)) NF (hp t) 11 NF [(0, .ref 101), (1, .int a1), (2, .int a2)] [] (hp s)) (k399 : Int32 → HS → Option (Int32 × HS)) (hk399 : ∀ (a1 : Int32) (s : HS), k399 a1 s = some (x, t) → Ev DDX12_reads miX12_reads NF (some (.int x)) NF (hp t) 399 NF [(0, .ref 101), (1, .int a1)] [] (hp s)) (hf : f_X12_reads_j263 v1 v2 k11 k399 s = some (x, t)) : Ev DDX12_reads miX12_reads NF (some (.int x)) NF (hp t) 263 NF [(0, .ref 101), (1, .int v1), (2, .int v2)] [] (hp s) := by
  refine e_aload_n dX12_reads_263 0 rfl rfl (pc2 := 264) rfl ?_
  refine e_getR (r := 124) fl_X12_77 dX12_reads_264 so_101 (rs_101_33 s.2.2) (by decide) (pc2 := 267) rfl ?_
  refine e_iload_n dX12_reads_267 1 rfl rfl (pc2 := 268) rfl ?_
  obtain ⟨g19, hf⟩ := gd_some hf
  refine e_zald dX12_reads_268 sa_124 (inb_v g19) (pc2 := 269) rfl ?_
  refine e_if_ne (tgt := 304) dX12_reads_269 (by decide) (pc2 := 272) rfl (fun c20 => ?_) (fun c20 => ?_)
  · have hf := if_f c20 hf
    exact t_X12_reads_j304 v1 v2 s _ hk11 _ hk399 hf
  · have hf := if_t c20 hf
    refine e_aload_n dX12_reads_272 0 rfl rfl (pc2 := 273) rfl ?_
    refine e_aload_n dX12_reads_273 0 rfl rfl (pc2 := 274) rfl ?_
    refine e_bipush (x := 60) dX12_reads_274 (by decide) (pc2 := 276) rfl ?_
    obtain ⟨y42, hy42, hf⟩ := bnd_s hf
    refine e_callVs (t_X12_isSign 60 s hy42) dX12_reads_276 cv_X12_253 rfl so_101 rc_11 (by decide) (by first | exact Nat.le_of_ble_eq_true rfl | simp [rva_cat, vc_i, vc_r, vc_l, vc_n]) nn0 rfl (pc2 := 279) rfl ?_
    refine e_if_eq (tgt := 287) dX12_reads_279 (by decide) (pc2 := 282) rfl (fun c43 => ?_) (fun c43 => ?_)
    · have hf := if_t c43 hf
      refine e_bipush (x := 25) dX12_reads_287 (by decide) (pc2 := 289) rfl ?_
      refine ev_sub [0, 1] rfl ?_
      exact t_X12_reads_j289 v1 25 s _ hk11 hf
    · have hf := if_f c43 hf
      refine e_bipush (x := 24) dX12_reads_282 (by decide) (pc2 := 284) rfl ?_
      refine e_goto (tgt := 289) dX12_reads_284 (by decide) ?_
      refine ev_sub [0, 1] rfl ?_
      exact t_X12_reads_j289 v1 24 s _ hk11 hf
def f_X12_reads_j120 (v1 : Int32) (v2 : Int32) (w0 : Int32) (w1 : Int32) (k11 : Int32 → Int32 → HS → Option (Int32 × HS)) (s : HS) : Option (Int32 × HS) :=
  gd (inb w1 7) (ltb (sI s 123 (w1.toNatClampNeg) w0) fun s61 => gd (inb v1 7) (ltb (sI s61 124 (v1.toNatClampNeg) (vp_nar .boolean 0)) fun s63 => bnd (f_X12_nextToken s63) fun s66 => k11 v1 v2 s66))
set_option maxRecDepth 20000 in
set_option maxHeartbeats 2000000 in
theorem t_X12_reads_j120 (v1 : Int32) (v2 : Int32) (w0 : Int32) (w1 : Int32) (s : HS) {x : Int32} {t : HS} (k11 : Int32 → Int32 → HS → Option (Int32 × HS)) (hk11 : ∀ (a1 : Int32) (a2 : Int32) (s : HS), k11 a1 a2 s = some (x, t) → Ev DDX12_reads miX12_reads NF (some (.int x)) NF (hp t) 11 NF [(0, .ref 101), (1, .int a1), (2, .int a2)] [] (hp s)) (hf : f_X12_reads_j120 v1 v2 w0 w1 k11 s = some (x, t)) : Ev DDX12_reads miX12_reads NF (some (.int x)) NF (hp t) 120 NF [(0, .ref 101), (1, .int v1), (2, .int v2)] [.int w0, .int w1, .ref 123] (hp s) := by
  obtain ⟨g62, hf⟩ := gd_some hf
  obtain ⟨s61, es61, hf⟩ := ltb_s hf
  refine e_iast dX12_reads_120 sa_123 (inb_v g62) (h2 := hp s61) (by rw [es61]; rfl) (pc2 := 121) rfl ?_
  refine e_aload_n dX12_reads_121 0 rfl rfl (pc2 := 122) rfl ?_
  refine e_getR (r := 124) fl_X12_77 dX12_reads_122 so_101 (rs_101_33 s61.2.2) (by decide) (pc2 := 125) rfl ?_
  refine e_iload_n dX12_reads_125 1 rfl rfl (pc2 := 126) rfl ?_
  refine e_iconst (x := 0) dX12_reads_126 (by decide) (pc2 := 127) rfl ?_
  obtain ⟨g64, hf⟩ := gd_some hf
  obtain ⟨s63, es63, hf⟩ := ltb_s hf
  refine e_zast dX12_reads_127 sa_124 (inb_v g64) (h2 := hp s63) (by rw [es63]; rfl) (pc2 := 128) rfl ?_
  refine e_goto (tgt := 172) dX12_reads_128 (by decide) ?_
  refine e_aload_n dX12_reads_172 0 rfl rfl (pc2 := 173) rfl ?_
  obtain ⟨s66, hy65, hf⟩ := bnd_s hf
  refine e_callVn (t_X12_nextToken  s63 hy65) dX12_reads_173 cv_X12_263 rfl so_101 rc_11 (by decide) (by first | exact Nat.le_of_ble_eq_true rfl | simp [rva_cat, vc_i, vc_r, vc_l, vc_n]) nn0 rfl (pc2 := 176) rfl ?_
  refine e_goto (tgt := 11) dX12_reads_176 (by decide) ?_
  exact hk11 v1 v2 s66 hf
def f_X12_reads_j99 (v1 : Int32) (v2 : Int32) (v4 : Int32) (w0 : Int32) (k11 : Int32 → Int32 → HS → Option (Int32 × HS)) (s : HS) : Option (Int32 × HS) :=
  bnd (f_X12_puts w0 s) fun s58 => ltb (v1 + 1) fun x59 => (if v4 = 0 then f_X12_reads_j120 x59 v2 2 x59 k11 s58 else f_X12_reads_j120 x59 v2 1 x59 k11 s58)
set_option maxRecDepth 20000 in
set_option maxHeartbeats 2000000 in
theorem t_X12_reads_j99 (v1 : Int32) (v2 : Int32) (v4 : Int32) (w0 : Int32) (s : HS) {x : Int32} {t : HS} (k11 : Int32 → Int32 → HS → Option (Int32 × HS)) (hk11 : ∀ (a1 : Int32) (a2 : Int32) (s : HS), k11 a1 a2 s = some (x, t) → Ev DDX12_reads miX12_reads NF (some (.int x)) NF (hp t) 11 NF [(0, .ref 101), (1, .int a1), (2, .int a2)] [] (hp s)) (hf : f_X12_reads_j99 v1 v2 v4 w0 k11 s = some (x, t)) : Ev DDX12_reads miX12_reads NF (some (.int x)) NF (hp t) 99 NF [(0, .ref 101), (1, .int v1), (2, .int v2), (4, .int v4)] [.int w0, .ref 101] (hp s) := by
  obtain ⟨s58, hy57, hf⟩ := bnd_s hf
  refine e_callVn (t_X12_puts w0 s hy57) dX12_reads_99 cv_X12_260 rfl so_101 rc_11 (by decide) (by first | exact Nat.le_of_ble_eq_true rfl | simp [rva_cat, vc_i, vc_r, vc_l, vc_n]) nn0 rfl (pc2 := 102) rfl ?_
  obtain ⟨x59, ex59, hf⟩ := ltb_s hf
  refine e_iinc dX12_reads_102 1 rfl (c9 := 1) (by decide) ex59.symm (by decide) (ls' := [(0, .ref 101), (1, .int x59), (2, .int v2), (4, .int v4)]) [1, 0, 2, 3] rfl (pc2 := 105) rfl ?_
  refine e_aload_n dX12_reads_105 0 rfl rfl (pc2 := 106) rfl ?_
  refine e_getR (r := 123) fl_X12_74 dX12_reads_106 so_101 (rs_101_32 s58.2.2) (by decide) (pc2 := 109) rfl ?_
  refine e_iload_n dX12_reads_109 1 rfl rfl (pc2 := 110) rfl ?_
  refine e_iload dX12_reads_110 3 rfl (pc2 := 112) rfl ?_
  refine e_if_eq (tgt := 119) dX12_reads_112 (by decide) (pc2 := 115) rfl (fun c60 => ?_) (fun c60 => ?_)
  · have hf := if_t c60 hf
    refine e_iconst (x := 2) dX12_reads_119 (by decide) (pc2 := 120) rfl ?_
    refine ev_sub [0, 1, 2] rfl ?_
    exact t_X12_reads_j120 x59 v2 2 x59 s58 _ hk11 hf
  · have hf := if_f c60 hf
    refine e_iconst (x := 1) dX12_reads_115 (by decide) (pc2 := 116) rfl ?_
    refine e_goto (tgt := 120) dX12_reads_116 (by decide) ?_
    refine ev_sub [0, 1, 2] rfl ?_
    exact t_X12_reads_j120 x59 v2 1 x59 s58 _ hk11 hf
def f_X12_reads_j86 (v1 : Int32) (v2 : Int32) (v4 : Int32) (k11 : Int32 → Int32 → HS → Option (Int32 × HS)) (s : HS) : Option (Int32 × HS) :=
  (if v4 = 0 then f_X12_reads_j99 v1 v2 v4 28 k11 s else f_X12_reads_j99 v1 v2 v4 30 k11 s)
set_option maxRecDepth 20000 in
set_option maxHeartbeats 2000000 in
theorem t_X12_reads_j86 (v1 : Int32) (v2 : Int32) (v4 : Int32) (s : HS) {x : Int32} {t : HS} (k11 : Int32 → Int32 → HS → Option (Int32 × HS)) (hk11 : ∀ (a1 : Int32) (a2 : Int32) (s : HS), k11 a1 a2 s = some (x, t) → Ev DDX12_reads miX12_reads NF (some (.int x)) NF (hp t) 11 NF [(0, .ref 101), (1, .int a1), (2, .int a2)] [] (hp s)) (hf : f_X12_reads_j86 v1 v2 v4 k11 s = some (x, t)) : Ev DDX12_reads miX12_reads NF (some (.int x)) NF (hp t) 86 NF [(0, .ref 101), (1, .int v1), (2, .int v2), (4, .int v4)] [] (hp s) := by
  refine e_aload_n dX12_reads_86 0 rfl rfl (pc2 := 87) rfl ?_
  refine e_iload dX12_reads_87 3 rfl (pc2 := 89) rfl ?_
  refine e_if_eq (tgt := 97) dX12_reads_89 (by decide) (pc2 := 92) rfl (fun c56 => ?_) (fun c56 => ?_)
  · have hf := if_t c56 hf
    refine e_bipush (x := 28) dX12_reads_97 (by decide) (pc2 := 99) rfl ?_
    exact t_X12_reads_j99 v1 v2 v4 28 s _ hk11 hf
  · have hf := if_f c56 hf
    refine e_bipush (x := 30) dX12_reads_92 (by decide) (pc2 := 94) rfl ?_
    refine e_goto (tgt := 99) dX12_reads_94 (by decide) ?_
    exact t_X12_reads_j99 v1 v2 v4 30 s _ hk11 hf
def f_X12_reads_l152b (v1 : Int32) (v2 : Int32) (k152 : Int32 → HS → Option (Int32 × HS)) (k172 : Int32 → HS → Option (Int32 × HS)) (s : HS) : Option (Int32 × HS) :=
  (if v1 ≤ 0 then k172 v1 s else gd (inb v1 7) ((if (s.1 123 v1.toNatClampNeg) = 1 then ltb (v1 + (-1)) fun x74 => k152 x74 s else k172 v1 s)))
set_option maxRecDepth 20000 in
set_option maxHeartbeats 2000000 in
theorem t_X12_reads_l152b (v1 : Int32) (v2 : Int32) (s : HS) {x : Int32} {t : HS} (k152 : Int32 → HS → Option (Int32 × HS)) (hk152 : ∀ (a1 : Int32) (s : HS), k152 a1 s = some (x, t) → Ev DDX12_reads miX12_reads NF (some (.int x)) NF (hp t) 152 NF [(0, .ref 101), (1, .int a1), (2, .int v2)] [] (hp s)) (k172 : Int32 → HS → Option (Int32 × HS)) (hk172 : ∀ (a1 : Int32) (s : HS), k172 a1 s = some (x, t) → Ev DDX12_reads miX12_reads NF (some (.int x)) NF (hp t) 172 NF [(0, .ref 101), (1, .int a1), (2, .int v2)] [] (hp s)) (hf : f_X12_reads_l152b v1 v2 k152 k172 s = some (x, t)) : Ev DDX12_reads miX12_reads NF (some (.int x)) NF (hp t) 152 NF [(0, .ref 101), (1, .int v1), (2, .int v2)] [] (hp s) := by
  refine e_iload_n dX12_reads_152 1 rfl rfl (pc2 := 153) rfl ?_
  refine e_if_le (tgt := 172) dX12_reads_153 (by decide) (pc2 := 156) rfl (fun c71 => ?_) (fun c71 => ?_)
  · have hf := if_t c71 hf
    exact hk172 v1 s hf
  · have hf := if_f c71 hf
    refine e_aload_n dX12_reads_156 0 rfl rfl (pc2 := 157) rfl ?_
    refine e_getR (r := 123) fl_X12_74 dX12_reads_157 so_101 (rs_101_32 s.2.2) (by decide) (pc2 := 160) rfl ?_
    refine e_iload_n dX12_reads_160 1 rfl rfl (pc2 := 161) rfl ?_
    obtain ⟨g72, hf⟩ := gd_some hf
    refine e_iald dX12_reads_161 sa_123 (inb_v g72) (pc2 := 162) rfl ?_
    refine e_iconst (x := 1) dX12_reads_162 (by decide) (pc2 := 163) rfl ?_
    refine e_icmp_ne (tgt := 172) dX12_reads_163 (by decide) (pc2 := 166) rfl (fun c73 => ?_) (fun c73 => ?_)
    · have hf := if_f c73 hf
      exact hk172 v1 s hf
    · have hf := if_t c73 hf
      obtain ⟨x74, ex74, hf⟩ := ltb_s hf
      refine e_iinc dX12_reads_166 1 rfl (c9 := (-1)) (by decide) ex74.symm (by decide) (ls' := [(0, .ref 101), (1, .int x74), (2, .int v2)]) [1, 0, 2] rfl (pc2 := 169) rfl ?_
      refine e_goto (tgt := 152) dX12_reads_169 (by decide) ?_
      exact hk152 x74 s hf
def f_X12_reads_l152 (v2 : Int32) (k172 : Int32 → HS → Option (Int32 × HS)) : Nat → Int32 → HS → Option (Int32 × HS)
  | 0, _, _ => none
  | n + 1, v1, s => f_X12_reads_l152b v1 v2 (f_X12_reads_l152 v2 k172 n) k172 s
set_option maxRecDepth 20000 in
set_option maxHeartbeats 2000000 in
theorem t_X12_reads_l152 (v2 : Int32) {x : Int32} {t : HS} (k172 : Int32 → HS → Option (Int32 × HS)) (hk172 : ∀ (a1 : Int32) (s : HS), k172 a1 s = some (x, t) → Ev DDX12_reads miX12_reads NF (some (.int x)) NF (hp t) 172 NF [(0, .ref 101), (1, .int a1), (2, .int v2)] [] (hp s)) : ∀ (n : Nat) (v1 : Int32) (s : HS), f_X12_reads_l152 v2 k172 n v1 s = some (x, t) → Ev DDX12_reads miX12_reads NF (some (.int x)) NF (hp t) 152 NF [(0, .ref 101), (1, .int v1), (2, .int v2)] [] (hp s) := by
  intro n
  induction n with
  | zero =>
    intro v1 s hf
    have hf : none = some (x, t) := hf
    cases hf
  | succ n ih =>
    intro v1 s hf
    exact t_X12_reads_l152b v1 v2  s _ ih _ hk172 hf
def f_X12_reads_j147 (v1 : Int32) (w0 : Int32) (k11 : Int32 → Int32 → HS → Option (Int32 × HS)) (s : HS) : Option (Int32 × HS) :=
  bnd (f_X12_puts w0 s) fun s70 => f_X12_reads_l152 0 (fun v75 s76 => bnd (f_X12_nextToken s76) fun s78 => k11 v75 0 s78) FU v1 s70
set_option maxRecDepth 20000 in
set_option maxHeartbeats 2000000 in
theorem t_X12_reads_j147 (v1 : Int32) (w0 : Int32) (s : HS) {x : Int32} {t : HS} (k11 : Int32 → Int32 → HS → Option (Int32 × HS)) (hk11 : ∀ (a1 : Int32) (a2 : Int32) (s : HS), k11 a1 a2 s = some (x, t) → Ev DDX12_reads miX12_reads NF (some (.int x)) NF (hp t) 11 NF [(0, .ref 101), (1, .int a1), (2, .int a2)] [] (hp s)) (hf : f_X12_reads_j147 v1 w0 k11 s = some (x, t)) : Ev DDX12_reads miX12_reads NF (some (.int x)) NF (hp t) 147 NF [(0, .ref 101), (1, .int v1)] [.int w0, .ref 101] (hp s) := by
  obtain ⟨s70, hy69, hf⟩ := bnd_s hf
  refine e_callVn (t_X12_puts w0 s hy69) dX12_reads_147 cv_X12_260 rfl so_101 rc_11 (by decide) (by first | exact Nat.le_of_ble_eq_true rfl | simp [rva_cat, vc_i, vc_r, vc_l, vc_n]) nn0 rfl (pc2 := 150) rfl ?_
  refine e_iconst (x := 0) dX12_reads_150 (by decide) (pc2 := 151) rfl ?_
  refine e_istore_n dX12_reads_151 rfl (by decide) rfl (ls' := [(0, .ref 101), (1, .int v1), (2, .int 0)]) [1, 2, 0] rfl (pc2 := 152) rfl ?_
  refine t_X12_reads_l152 0 _ ?_ FU v1 s70 hf
  · intro v75 s76 hf
    refine e_aload_n dX12_reads_172 0 rfl rfl (pc2 := 173) rfl ?_
    obtain ⟨s78, hy77, hf⟩ := bnd_s hf
    refine e_callVn (t_X12_nextToken  s76 hy77) dX12_reads_173 cv_X12_263 rfl so_101 rc_11 (by decide) (by first | exact Nat.le_of_ble_eq_true rfl | simp [rva_cat, vc_i, vc_r, vc_l, vc_n]) nn0 rfl (pc2 := 176) rfl ?_
    refine e_goto (tgt := 11) dX12_reads_176 (by decide) ?_
    exact hk11 v75 0 s78 hf
def f_X12_reads_j65 (v1 : Int32) (v2 : Int32) (v3 : Int32) (v4 : Int32) (v5 : Int32) (k11 : Int32 → Int32 → HS → Option (Int32 × HS)) (s : HS) : Option (Int32 × HS) :=
  (if v1 = 5 then bnd2 (f_X12_fails 5 s) fun y79 s80 => gd (isb y79) (some (y79, s80)) else (if v4 = 0 then (if v5 = 0 then (if v3 ≤ 0 then f_X12_reads_j147 v1 (100 + (s.1 101 8)) k11 s else f_X12_reads_j147 v1 v3 k11 s) else f_X12_reads_j86 v1 v2 v4 k11 s) else f_X12_reads_j86 v1 v2 v4 k11 s))
set_option maxRecDepth 20000 in
set_option maxHeartbeats 2000000 in
theorem t_X12_reads_j65 (v1 : Int32) (v2 : Int32) (v3 : Int32) (v4 : Int32) (v5 : Int32) (s : HS) {x : Int32} {t : HS} (k11 : Int32 → Int32 → HS → Option (Int32 × HS)) (hk11 : ∀ (a1 : Int32) (a2 : Int32) (s : HS), k11 a1 a2 s = some (x, t) → Ev DDX12_reads miX12_reads NF (some (.int x)) NF (hp t) 11 NF [(0, .ref 101), (1, .int a1), (2, .int a2)] [] (hp s)) (hf : f_X12_reads_j65 v1 v2 v3 v4 v5 k11 s = some (x, t)) : Ev DDX12_reads miX12_reads NF (some (.int x)) NF (hp t) 65 NF [(0, .ref 101), (1, .int v1), (2, .int v2), (3, .int v3), (4, .int v4), (5, .int v5)] [] (hp s) := by
  refine e_iload_n dX12_reads_65 1 rfl rfl (pc2 := 66) rfl ?_
  refine e_iconst (x := 5) dX12_reads_66 (by decide) (pc2 := 67) rfl ?_
  refine e_icmp_ne (tgt := 76) dX12_reads_67 (by decide) (pc2 := 70) rfl (fun c54 => ?_) (fun c54 => ?_)
  · have hf := if_f c54 hf
    refine e_iload dX12_reads_76 4 rfl (pc2 := 78) rfl ?_
    refine e_if_ne (tgt := 86) dX12_reads_78 (by decide) (pc2 := 81) rfl (fun c55 => ?_) (fun c55 => ?_)
    · have hf := if_f c55 hf
      refine ev_sub [0, 1, 2, 4] rfl ?_
      exact t_X12_reads_j86 v1 v2 v4 s _ hk11 hf
    · have hf := if_t c55 hf
      refine e_iload dX12_reads_81 5 rfl (pc2 := 83) rfl ?_
      refine e_if_eq (tgt := 131) dX12_reads_83 (by decide) (pc2 := 86) rfl (fun c67 => ?_) (fun c67 => ?_)
      · have hf := if_t c67 hf
        refine e_aload_n dX12_reads_131 0 rfl rfl (pc2 := 132) rfl ?_
        refine e_iload_n dX12_reads_132 3 rfl rfl (pc2 := 133) rfl ?_
        refine e_if_le (tgt := 140) dX12_reads_133 (by decide) (pc2 := 136) rfl (fun c68 => ?_) (fun c68 => ?_)
        · have hf := if_t c68 hf
          refine e_bipush (x := 100) dX12_reads_140 (by decide) (pc2 := 142) rfl ?_
          refine e_aload_n dX12_reads_142 0 rfl rfl (pc2 := 143) rfl ?_
          refine e_getI fl_X12_215 dX12_reads_143 so_101 (by decide) (pc2 := 146) rfl ?_
          refine e_iadd dX12_reads_146 (pc2 := 147) rfl ?_
          refine ev_sub [0, 1] rfl ?_
          exact t_X12_reads_j147 v1 (100 + (s.1 101 8)) s _ hk11 hf
        · have hf := if_f c68 hf
          refine e_iload_n dX12_reads_136 3 rfl rfl (pc2 := 137) rfl ?_
          refine e_goto (tgt := 147) dX12_reads_137 (by decide) ?_
          refine ev_sub [0, 1] rfl ?_
          exact t_X12_reads_j147 v1 v3 s _ hk11 hf
      · have hf := if_f c67 hf
        refine ev_sub [0, 1, 2, 4] rfl ?_
        exact t_X12_reads_j86 v1 v2 v4 s _ hk11 hf
  · have hf := if_t c54 hf
    refine e_aload_n dX12_reads_70 0 rfl rfl (pc2 := 71) rfl ?_
    refine e_iconst (x := 5) dX12_reads_71 (by decide) (pc2 := 72) rfl ?_
    obtain ⟨y79, s80, hy79, hf⟩ := bnd2_s hf
    refine e_callVs (t_X12_fails 5 s hy79) dX12_reads_72 cv_X12_257 rfl so_101 rc_11 (by decide) (by first | exact Nat.le_of_ble_eq_true rfl | simp [rva_cat, vc_i, vc_r, vc_l, vc_n]) nn0 rfl (pc2 := 75) rfl ?_
    obtain ⟨g81, hf⟩ := gd_some hf
    cases hf
    exact e_zret (isb_n g81) rfl dX12_reads_75
def f_X12_reads_l11b (v1 : Int32) (v2 : Int32) (k11 : Int32 → Int32 → HS → Option (Int32 × HS)) (k399 : Int32 → HS → Option (Int32 × HS)) (s : HS) : Option (Int32 × HS) :=
  (if v2 = 0 then bnd (f_X12_isSign 43 s) fun y3 => (if y3 = 0 then bnd (f_X12_isSign 45 s) fun y13 => (if y13 = 0 then bnd (f_X12_isSign 42 s) fun y15 => (if y15 = 0 then bnd (f_X12_isSign 60 s) fun y17 => (if y17 = 0 then bnd (f_X12_isSign 61 s) fun y48 => (if y48 = 0 then f_X12_reads_j304 v1 v2 k11 k399 s else f_X12_reads_j263 v1 v2 k11 k399 s) else f_X12_reads_j263 v1 v2 k11 k399 s) else f_X12_reads_j206 v1 k11 s) else f_X12_reads_j206 v1 k11 s) else f_X12_reads_j206 v1 k11 s) else ltb (f_X12_fact s) fun x50 => ltb (f_X12_isWord 10631 s) fun x51 => bnd (f_X12_isSign 40 s) fun y52 => (if x50 = 0 then (if x51 = 0 then (if y52 = 0 then (if (s.1 101 6) = 2 then f_X12_reads_j65 v1 v2 x50 x51 y52 k11 s else bnd2 (f_X12_fails 1 s) fun y85 s86 => gd (isb y85) (some (y85, s86))) else f_X12_reads_j65 v1 v2 x50 x51 y52 k11 s) else f_X12_reads_j65 v1 v2 x50 x51 y52 k11 s) else f_X12_reads_j65 v1 v2 x50 x51 y52 k11 s))
set_option maxRecDepth 20000 in
set_option maxHeartbeats 2000000 in
theorem t_X12_reads_l11b (v1 : Int32) (v2 : Int32) (s : HS) {x : Int32} {t : HS} (k11 : Int32 → Int32 → HS → Option (Int32 × HS)) (hk11 : ∀ (a1 : Int32) (a2 : Int32) (s : HS), k11 a1 a2 s = some (x, t) → Ev DDX12_reads miX12_reads NF (some (.int x)) NF (hp t) 11 NF [(0, .ref 101), (1, .int a1), (2, .int a2)] [] (hp s)) (k399 : Int32 → HS → Option (Int32 × HS)) (hk399 : ∀ (a1 : Int32) (s : HS), k399 a1 s = some (x, t) → Ev DDX12_reads miX12_reads NF (some (.int x)) NF (hp t) 399 NF [(0, .ref 101), (1, .int a1)] [] (hp s)) (hf : f_X12_reads_l11b v1 v2 k11 k399 s = some (x, t)) : Ev DDX12_reads miX12_reads NF (some (.int x)) NF (hp t) 11 NF [(0, .ref 101), (1, .int v1), (2, .int v2)] [] (hp s) := by
  refine e_iload_n dX12_reads_11 2 rfl rfl (pc2 := 12) rfl ?_
  refine e_if_eq (tgt := 179) dX12_reads_12 (by decide) (pc2 := 15) rfl (fun c2 => ?_) (fun c2 => ?_)
  · have hf := if_t c2 hf
    refine e_aload_n dX12_reads_179 0 rfl rfl (pc2 := 180) rfl ?_
    refine e_bipush (x := 43) dX12_reads_180 (by decide) (pc2 := 182) rfl ?_
    obtain ⟨y3, hy3, hf⟩ := bnd_s hf
    refine e_callVs (t_X12_isSign 43 s hy3) dX12_reads_182 cv_X12_253 rfl so_101 rc_11 (by decide) (by first | exact Nat.le_of_ble_eq_true rfl | simp [rva_cat, vc_i, vc_r, vc_l, vc_n]) nn0 rfl (pc2 := 185) rfl ?_
    refine e_if_ne (tgt := 206) dX12_reads_185 (by decide) (pc2 := 188) rfl (fun c4 => ?_) (fun c4 => ?_)
    · have hf := if_f c4 hf
      refine ev_sub [0, 1] rfl ?_
      exact t_X12_reads_j206 v1 s _ hk11 hf
    · have hf := if_t c4 hf
      refine e_aload_n dX12_reads_188 0 rfl rfl (pc2 := 189) rfl ?_
      refine e_bipush (x := 45) dX12_reads_189 (by decide) (pc2 := 191) rfl ?_
      obtain ⟨y13, hy13, hf⟩ := bnd_s hf
      refine e_callVs (t_X12_isSign 45 s hy13) dX12_reads_191 cv_X12_253 rfl so_101 rc_11 (by decide) (by first | exact Nat.le_of_ble_eq_true rfl | simp [rva_cat, vc_i, vc_r, vc_l, vc_n]) nn0 rfl (pc2 := 194) rfl ?_
      refine e_if_ne (tgt := 206) dX12_reads_194 (by decide) (pc2 := 197) rfl (fun c14 => ?_) (fun c14 => ?_)
      · have hf := if_f c14 hf
        refine ev_sub [0, 1] rfl ?_
        exact t_X12_reads_j206 v1 s _ hk11 hf
      · have hf := if_t c14 hf
        refine e_aload_n dX12_reads_197 0 rfl rfl (pc2 := 198) rfl ?_
        refine e_bipush (x := 42) dX12_reads_198 (by decide) (pc2 := 200) rfl ?_
        obtain ⟨y15, hy15, hf⟩ := bnd_s hf
        refine e_callVs (t_X12_isSign 42 s hy15) dX12_reads_200 cv_X12_253 rfl so_101 rc_11 (by decide) (by first | exact Nat.le_of_ble_eq_true rfl | simp [rva_cat, vc_i, vc_r, vc_l, vc_n]) nn0 rfl (pc2 := 203) rfl ?_
        refine e_if_eq (tgt := 245) dX12_reads_203 (by decide) (pc2 := 206) rfl (fun c16 => ?_) (fun c16 => ?_)
        · have hf := if_t c16 hf
          refine e_aload_n dX12_reads_245 0 rfl rfl (pc2 := 246) rfl ?_
          refine e_bipush (x := 60) dX12_reads_246 (by decide) (pc2 := 248) rfl ?_
          obtain ⟨y17, hy17, hf⟩ := bnd_s hf
          refine e_callVs (t_X12_isSign 60 s hy17) dX12_reads_248 cv_X12_253 rfl so_101 rc_11 (by decide) (by first | exact Nat.le_of_ble_eq_true rfl | simp [rva_cat, vc_i, vc_r, vc_l, vc_n]) nn0 rfl (pc2 := 251) rfl ?_
          refine e_if_ne (tgt := 263) dX12_reads_251 (by decide) (pc2 := 254) rfl (fun c18 => ?_) (fun c18 => ?_)
          · have hf := if_f c18 hf
            exact t_X12_reads_j263 v1 v2 s _ hk11 _ hk399 hf
          · have hf := if_t c18 hf
            refine e_aload_n dX12_reads_254 0 rfl rfl (pc2 := 255) rfl ?_
            refine e_bipush (x := 61) dX12_reads_255 (by decide) (pc2 := 257) rfl ?_
            obtain ⟨y48, hy48, hf⟩ := bnd_s hf
            refine e_callVs (t_X12_isSign 61 s hy48) dX12_reads_257 cv_X12_253 rfl so_101 rc_11 (by decide) (by first | exact Nat.le_of_ble_eq_true rfl | simp [rva_cat, vc_i, vc_r, vc_l, vc_n]) nn0 rfl (pc2 := 260) rfl ?_
            refine e_if_eq (tgt := 304) dX12_reads_260 (by decide) (pc2 := 263) rfl (fun c49 => ?_) (fun c49 => ?_)
            · have hf := if_t c49 hf
              exact t_X12_reads_j304 v1 v2 s _ hk11 _ hk399 hf
            · have hf := if_f c49 hf
              exact t_X12_reads_j263 v1 v2 s _ hk11 _ hk399 hf
        · have hf := if_f c16 hf
          refine ev_sub [0, 1] rfl ?_
          exact t_X12_reads_j206 v1 s _ hk11 hf
  · have hf := if_f c2 hf
    refine e_aload_n dX12_reads_15 0 rfl rfl (pc2 := 16) rfl ?_
    refine e_callVs (t_X12_fact  s rfl) dX12_reads_16 cv_X12_243 rfl so_101 rc_11 (by decide) (by first | exact Nat.le_of_ble_eq_true rfl | simp [rva_cat, vc_i, vc_r, vc_l, vc_n]) nn0 rfl (pc2 := 19) rfl ?_
    obtain ⟨x50, ex50, hf⟩ := ltb_s hf
    refine e_istore_n dX12_reads_19 rfl (by decide) ex50.symm (ls' := [(0, .ref 101), (1, .int v1), (2, .int v2), (3, .int x50)]) [1, 2, 3, 0] rfl (pc2 := 20) rfl ?_
    refine e_aload_n dX12_reads_20 0 rfl rfl (pc2 := 21) rfl ?_
    refine e_ldc2 dX12_reads_21 lk_X12_247 (pc2 := 24) rfl ?_
    refine e_callVs (t_X12_isWord 10631 s rfl) dX12_reads_24 cv_X12_249 rfl so_101 rc_11 (by decide) (by first | exact Nat.le_of_ble_eq_true rfl | simp [rva_cat, vc_i, vc_r, vc_l, vc_n]) nn0 rfl (pc2 := 27) rfl ?_
    obtain ⟨x51, ex51, hf⟩ := ltb_s hf
    refine e_istore dX12_reads_27 (by decide) ex51.symm (ls' := [(0, .ref 101), (1, .int v1), (2, .int v2), (3, .int x50), (4, .int x51)]) [1, 2, 3, 4, 0] rfl (pc2 := 29) rfl ?_
    refine e_aload_n dX12_reads_29 0 rfl rfl (pc2 := 30) rfl ?_
    refine e_bipush (x := 40) dX12_reads_30 (by decide) (pc2 := 32) rfl ?_
    obtain ⟨y52, hy52, hf⟩ := bnd_s hf
    refine e_callVs (t_X12_isSign 40 s hy52) dX12_reads_32 cv_X12_253 rfl so_101 rc_11 (by decide) (by first | exact Nat.le_of_ble_eq_true rfl | simp [rva_cat, vc_i, vc_r, vc_l, vc_n]) nn0 rfl (pc2 := 35) rfl ?_
    refine e_istore dX12_reads_35 (by decide) rfl (ls' := [(0, .ref 101), (1, .int v1), (2, .int v2), (3, .int x50), (4, .int x51), (5, .int y52)]) [1, 2, 3, 4, 5, 0] rfl (pc2 := 37) rfl ?_
    refine e_iload_n dX12_reads_37 3 rfl rfl (pc2 := 38) rfl ?_
    refine e_if_ne (tgt := 65) dX12_reads_38 (by decide) (pc2 := 41) rfl (fun c53 => ?_) (fun c53 => ?_)
    · have hf := if_f c53 hf
      exact t_X12_reads_j65 v1 v2 x50 x51 y52 s _ hk11 hf
    · have hf := if_t c53 hf
      refine e_iload dX12_reads_41 4 rfl (pc2 := 43) rfl ?_
      refine e_if_ne (tgt := 65) dX12_reads_43 (by decide) (pc2 := 46) rfl (fun c82 => ?_) (fun c82 => ?_)
      · have hf := if_f c82 hf
        exact t_X12_reads_j65 v1 v2 x50 x51 y52 s _ hk11 hf
      · have hf := if_t c82 hf
        refine e_iload dX12_reads_46 5 rfl (pc2 := 48) rfl ?_
        refine e_if_ne (tgt := 65) dX12_reads_48 (by decide) (pc2 := 51) rfl (fun c83 => ?_) (fun c83 => ?_)
        · have hf := if_f c83 hf
          exact t_X12_reads_j65 v1 v2 x50 x51 y52 s _ hk11 hf
        · have hf := if_t c83 hf
          refine e_aload_n dX12_reads_51 0 rfl rfl (pc2 := 52) rfl ?_
          refine e_getI fl_X12_218 dX12_reads_52 so_101 (by decide) (pc2 := 55) rfl ?_
          refine e_iconst (x := 2) dX12_reads_55 (by decide) (pc2 := 56) rfl ?_
          refine e_icmp_eq (tgt := 65) dX12_reads_56 (by decide) (pc2 := 59) rfl (fun c84 => ?_) (fun c84 => ?_)
          · have hf := if_t c84 hf
            exact t_X12_reads_j65 v1 v2 x50 x51 y52 s _ hk11 hf
          · have hf := if_f c84 hf
            refine e_aload_n dX12_reads_59 0 rfl rfl (pc2 := 60) rfl ?_
            refine e_iconst (x := 1) dX12_reads_60 (by decide) (pc2 := 61) rfl ?_
            obtain ⟨y85, s86, hy85, hf⟩ := bnd2_s hf
            refine e_callVs (t_X12_fails 1 s hy85) dX12_reads_61 cv_X12_257 rfl so_101 rc_11 (by decide) (by first | exact Nat.le_of_ble_eq_true rfl | simp [rva_cat, vc_i, vc_r, vc_l, vc_n]) nn0 rfl (pc2 := 64) rfl ?_
            obtain ⟨g87, hf⟩ := gd_some hf
            cases hf
            exact e_zret (isb_n g87) rfl dX12_reads_64
def f_X12_reads_l11 (k399 : Int32 → HS → Option (Int32 × HS)) : Nat → Int32 → Int32 → HS → Option (Int32 × HS)
  | 0, _, _, _ => none
  | n + 1, v1, v2, s => f_X12_reads_l11b v1 v2 (f_X12_reads_l11 k399 n) k399 s
set_option maxRecDepth 20000 in
set_option maxHeartbeats 2000000 in
theorem t_X12_reads_l11  {x : Int32} {t : HS} (k399 : Int32 → HS → Option (Int32 × HS)) (hk399 : ∀ (a1 : Int32) (s : HS), k399 a1 s = some (x, t) → Ev DDX12_reads miX12_reads NF (some (.int x)) NF (hp t) 399 NF [(0, .ref 101), (1, .int a1)] [] (hp s)) : ∀ (n : Nat) (v1 : Int32) (v2 : Int32) (s : HS), f_X12_reads_l11 k399 n v1 v2 s = some (x, t) → Ev DDX12_reads miX12_reads NF (some (.int x)) NF (hp t) 11 NF [(0, .ref 101), (1, .int v1), (2, .int v2)] [] (hp s) := by
  intro n
  induction n with
  | zero =>
    intro v1 v2 s hf
    have hf : none = some (x, t) := hf
    cases hf
  | succ n ih =>
    intro v1 v2 s hf
    exact t_X12_reads_l11b v1 v2  s _ ih _ hk399 hf
def f_X12_reads_j399 (v1 : Int32) (s : HS) : Option (Int32 × HS) :=
  (if v1 = 0 then bnd (f_X12_isSign 59 s) fun y94 => (if y94 = 0 then bnd2 (f_X12_fails 1 s) fun y96 s97 => gd (isb y96) (some (y96, s97)) else bnd (f_X12_nextToken s) fun s100 => some (1, s100)) else bnd2 (f_X12_fails 1 s) fun y91 s92 => gd (isb y91) (some (y91, s92)))
set_option maxRecDepth 20000 in
set_option maxHeartbeats 2000000 in
theorem t_X12_reads_j399 (v1 : Int32) (s : HS) {x : Int32} {t : HS}  (hf : f_X12_reads_j399 v1 s = some (x, t)) : Ev DDX12_reads miX12_reads NF (some (.int x)) NF (hp t) 399 NF [(0, .ref 101), (1, .int v1)] [] (hp s) := by
  refine e_iload_n dX12_reads_399 1 rfl rfl (pc2 := 400) rfl ?_
  refine e_if_ne (tgt := 418) dX12_reads_400 (by decide) (pc2 := 403) rfl (fun c90 => ?_) (fun c90 => ?_)
  · have hf := if_f c90 hf
    refine e_aload_n dX12_reads_418 0 rfl rfl (pc2 := 419) rfl ?_
    refine e_iconst (x := 1) dX12_reads_419 (by decide) (pc2 := 420) rfl ?_
    obtain ⟨y91, s92, hy91, hf⟩ := bnd2_s hf
    refine e_callVs (t_X12_fails 1 s hy91) dX12_reads_420 cv_X12_257 rfl so_101 rc_11 (by decide) (by first | exact Nat.le_of_ble_eq_true rfl | simp [rva_cat, vc_i, vc_r, vc_l, vc_n]) nn0 rfl (pc2 := 423) rfl ?_
    obtain ⟨g93, hf⟩ := gd_some hf
    cases hf
    exact e_zret (isb_n g93) rfl dX12_reads_423
  · have hf := if_t c90 hf
    refine e_aload_n dX12_reads_403 0 rfl rfl (pc2 := 404) rfl ?_
    refine e_bipush (x := 59) dX12_reads_404 (by decide) (pc2 := 406) rfl ?_
    obtain ⟨y94, hy94, hf⟩ := bnd_s hf
    refine e_callVs (t_X12_isSign 59 s hy94) dX12_reads_406 cv_X12_253 rfl so_101 rc_11 (by decide) (by first | exact Nat.le_of_ble_eq_true rfl | simp [rva_cat, vc_i, vc_r, vc_l, vc_n]) nn0 rfl (pc2 := 409) rfl ?_
    refine e_if_eq (tgt := 418) dX12_reads_409 (by decide) (pc2 := 412) rfl (fun c95 => ?_) (fun c95 => ?_)
    · have hf := if_t c95 hf
      refine e_aload_n dX12_reads_418 0 rfl rfl (pc2 := 419) rfl ?_
      refine e_iconst (x := 1) dX12_reads_419 (by decide) (pc2 := 420) rfl ?_
      obtain ⟨y96, s97, hy96, hf⟩ := bnd2_s hf
      refine e_callVs (t_X12_fails 1 s hy96) dX12_reads_420 cv_X12_257 rfl so_101 rc_11 (by decide) (by first | exact Nat.le_of_ble_eq_true rfl | simp [rva_cat, vc_i, vc_r, vc_l, vc_n]) nn0 rfl (pc2 := 423) rfl ?_
      obtain ⟨g98, hf⟩ := gd_some hf
      cases hf
      exact e_zret (isb_n g98) rfl dX12_reads_423
    · have hf := if_f c95 hf
      refine e_aload_n dX12_reads_412 0 rfl rfl (pc2 := 413) rfl ?_
      obtain ⟨s100, hy99, hf⟩ := bnd_s hf
      refine e_callVn (t_X12_nextToken  s hy99) dX12_reads_413 cv_X12_263 rfl so_101 rc_11 (by decide) (by first | exact Nat.le_of_ble_eq_true rfl | simp [rva_cat, vc_i, vc_r, vc_l, vc_n]) nn0 rfl (pc2 := 416) rfl ?_
      refine e_iconst (x := 1) dX12_reads_416 (by decide) (pc2 := 417) rfl ?_
      cases hf
      exact e_zret (by decide) rfl dX12_reads_417
def f_X12_reads  (s : HS) : Option (Int32 × HS) :=
  ltb (sI s 124 (0) (vp_nar .boolean 0)) fun s1 => f_X12_reads_l11 (fun v88 s89 => f_X12_reads_j399 v88 s89) FU 0 1 s1
set_option maxRecDepth 20000 in
set_option maxHeartbeats 2000000 in
theorem t_X12_reads  (s : HS) {x : Int32} {t : HS} (hf : f_X12_reads  s = some (x, t)) : Mt DDX12_reads miX12_reads [.ref 101] NF (hp s) (some (.int x)) NF (hp t) := by
  refine Mt.of (by decide +kernel) (Nat.le_refl _) (Nat.le_of_ble_eq_true rfl) ?_
  show Ev DDX12_reads miX12_reads NF (some (.int x)) NF (hp t) 0 NF [(0, .ref 101)] [] (hp s)
  unfold f_X12_reads at hf
  refine e_iconst (x := 0) dX12_reads_0 (by decide) (pc2 := 1) rfl ?_
  refine e_istore_n dX12_reads_1 rfl (by decide) rfl (ls' := [(0, .ref 101), (1, .int 0)]) [1, 0] rfl (pc2 := 2) rfl ?_
  refine e_iconst (x := 1) dX12_reads_2 (by decide) (pc2 := 3) rfl ?_
  refine e_istore_n dX12_reads_3 rfl (by decide) rfl (ls' := [(0, .ref 101), (1, .int 0), (2, .int 1)]) [1, 2, 0] rfl (pc2 := 4) rfl ?_
  refine e_aload_n dX12_reads_4 0 rfl rfl (pc2 := 5) rfl ?_
  refine e_getR (r := 124) fl_X12_77 dX12_reads_5 so_101 (rs_101_33 s.2.2) (by decide) (pc2 := 8) rfl ?_
  refine e_iconst (x := 0) dX12_reads_8 (by decide) (pc2 := 9) rfl ?_
  refine e_iconst (x := 0) dX12_reads_9 (by decide) (pc2 := 10) rfl ?_
  obtain ⟨s1, es1, hf⟩ := ltb_s hf
  refine e_zast dX12_reads_10 sa_124 (inb_v (by decide)) (h2 := hp s1) (by rw [es1]; rfl) (pc2 := 11) rfl ?_
  refine t_X12_reads_l11 _ ?_ FU 0 1 s1 hf
  · intro v88 s89 hf
    exact t_X12_reads_j399 v88 s89 hf
abbrev DDX12_opens : Nat := 1
def f_X12_opens (v1 : Int32) (s : HS) : Option HS :=
  gd (inb v1 7) (ltb (sI s 126 (v1.toNatClampNeg) 0) fun s1 => gd (inb v1 7) (ltb (sI s1 128 (v1.toNatClampNeg) 0) fun s3 => gd (inb v1 7) (ltb (sI s3 129 (v1.toNatClampNeg) 0) fun s5 => gd (inb v1 7) (ltb (sI s5 130 (v1.toNatClampNeg) 20) fun s7 => gd (inb v1 7) (ltb (sI s7 132 (v1.toNatClampNeg) 0) fun s9 => some s9)))))
set_option maxRecDepth 20000 in
set_option maxHeartbeats 2000000 in
theorem t_X12_opens (v1 : Int32) (s : HS) {t : HS} (hf : f_X12_opens  v1 s = some t) : Mt DDX12_opens miX12_opens [.ref 101, .int v1] NF (hp s) none NF (hp t) := by
  refine Mt.of (by decide +kernel) (Nat.le_refl _) (Nat.le_of_ble_eq_true rfl) ?_
  show Ev DDX12_opens miX12_opens NF none NF (hp t) 0 NF [(0, .ref 101), (1, .int v1)] [] (hp s)
  unfold f_X12_opens at hf
  refine e_aload_n dX12_opens_0 0 rfl rfl (pc2 := 1) rfl ?_
  refine e_getR (r := 126) fl_X12_84 dX12_opens_1 so_101 (rs_101_35 s.2.2) (by decide) (pc2 := 4) rfl ?_
  refine e_iload_n dX12_opens_4 1 rfl rfl (pc2 := 5) rfl ?_
  refine e_iconst (x := 0) dX12_opens_5 (by decide) (pc2 := 6) rfl ?_
  obtain ⟨g2, hf⟩ := gd_some hf
  obtain ⟨s1, es1, hf⟩ := ltb_s hf
  refine e_iast dX12_opens_6 sa_126 (inb_v g2) (h2 := hp s1) (by rw [es1]; rfl) (pc2 := 7) rfl ?_
  refine e_aload_n dX12_opens_7 0 rfl rfl (pc2 := 8) rfl ?_
  refine e_getR (r := 128) fl_X12_90 dX12_opens_8 so_101 (rs_101_37 s1.2.2) (by decide) (pc2 := 11) rfl ?_
  refine e_iload_n dX12_opens_11 1 rfl rfl (pc2 := 12) rfl ?_
  refine e_iconst (x := 0) dX12_opens_12 (by decide) (pc2 := 13) rfl ?_
  obtain ⟨g4, hf⟩ := gd_some hf
  obtain ⟨s3, es3, hf⟩ := ltb_s hf
  refine e_iast dX12_opens_13 sa_128 (inb_v g4) (h2 := hp s3) (by rw [es3]; rfl) (pc2 := 14) rfl ?_
  refine e_aload_n dX12_opens_14 0 rfl rfl (pc2 := 15) rfl ?_
  refine e_getR (r := 129) fl_X12_93 dX12_opens_15 so_101 (rs_101_38 s3.2.2) (by decide) (pc2 := 18) rfl ?_
  refine e_iload_n dX12_opens_18 1 rfl rfl (pc2 := 19) rfl ?_
  refine e_iconst (x := 0) dX12_opens_19 (by decide) (pc2 := 20) rfl ?_
  obtain ⟨g6, hf⟩ := gd_some hf
  obtain ⟨s5, es5, hf⟩ := ltb_s hf
  refine e_iast dX12_opens_20 sa_129 (inb_v g6) (h2 := hp s5) (by rw [es5]; rfl) (pc2 := 21) rfl ?_
  refine e_aload_n dX12_opens_21 0 rfl rfl (pc2 := 22) rfl ?_
  refine e_getR (r := 130) fl_X12_96 dX12_opens_22 so_101 (rs_101_39 s5.2.2) (by decide) (pc2 := 25) rfl ?_
  refine e_iload_n dX12_opens_25 1 rfl rfl (pc2 := 26) rfl ?_
  refine e_bipush (x := 20) dX12_opens_26 (by decide) (pc2 := 28) rfl ?_
  obtain ⟨g8, hf⟩ := gd_some hf
  obtain ⟨s7, es7, hf⟩ := ltb_s hf
  refine e_iast dX12_opens_28 sa_130 (inb_v g8) (h2 := hp s7) (by rw [es7]; rfl) (pc2 := 29) rfl ?_
  refine e_aload_n dX12_opens_29 0 rfl rfl (pc2 := 30) rfl ?_
  refine e_getR (r := 132) fl_X12_102 dX12_opens_30 so_101 (rs_101_41 s7.2.2) (by decide) (pc2 := 33) rfl ?_
  refine e_iload_n dX12_opens_33 1 rfl rfl (pc2 := 34) rfl ?_
  refine e_iconst (x := 0) dX12_opens_34 (by decide) (pc2 := 35) rfl ?_
  obtain ⟨g10, hf⟩ := gd_some hf
  obtain ⟨s9, es9, hf⟩ := ltb_s hf
  refine e_iast dX12_opens_35 sa_132 (inb_v g10) (h2 := hp s9) (by rw [es9]; rfl) (pc2 := 36) rfl ?_
  cases hf
  exact e_vret rfl dX12_opens_36
abbrev DDX12_sums : Nat := 1
def f_X12_sums (v1 : Int32) (s : HS) : Option HS :=
  gd (inb v1 7) ((if (s.1 130 v1.toNatClampNeg) = 21 then gd (inb v1 7) (gd (inb v1 7) (gd (inb v1 7) (ltb (sI s 129 (v1.toNatClampNeg) ((s.1 129 v1.toNatClampNeg) - (s.1 131 v1.toNatClampNeg))) fun s11 => gd (inb v1 7) (ltb (sI s11 132 (v1.toNatClampNeg) 0) fun s13 => some s13)))) else gd (inb v1 7) (gd (inb v1 7) (gd (inb v1 7) (ltb (sI s 129 (v1.toNatClampNeg) ((s.1 129 v1.toNatClampNeg) + (s.1 131 v1.toNatClampNeg))) fun s5 => gd (inb v1 7) (ltb (sI s5 132 (v1.toNatClampNeg) 0) fun s7 => some s7))))))
set_option maxRecDepth 20000 in
set_option maxHeartbeats 2000000 in
theorem t_X12_sums (v1 : Int32) (s : HS) {t : HS} (hf : f_X12_sums  v1 s = some t) : Mt DDX12_sums miX12_sums [.ref 101, .int v1] NF (hp s) none NF (hp t) := by
  refine Mt.of (by decide +kernel) (Nat.le_refl _) (Nat.le_of_ble_eq_true rfl) ?_
  show Ev DDX12_sums miX12_sums NF none NF (hp t) 0 NF [(0, .ref 101), (1, .int v1)] [] (hp s)
  unfold f_X12_sums at hf
  refine e_aload_n dX12_sums_0 0 rfl rfl (pc2 := 1) rfl ?_
  refine e_getR (r := 129) fl_X12_93 dX12_sums_1 so_101 (rs_101_38 s.2.2) (by decide) (pc2 := 4) rfl ?_
  refine e_iload_n dX12_sums_4 1 rfl rfl (pc2 := 5) rfl ?_
  refine e_aload_n dX12_sums_5 0 rfl rfl (pc2 := 6) rfl ?_
  refine e_getR (r := 130) fl_X12_96 dX12_sums_6 so_101 (rs_101_39 s.2.2) (by decide) (pc2 := 9) rfl ?_
  refine e_iload_n dX12_sums_9 1 rfl rfl (pc2 := 10) rfl ?_
  obtain ⟨g1, hf⟩ := gd_some hf
  refine e_iald dX12_sums_10 sa_130 (inb_v g1) (pc2 := 11) rfl ?_
  refine e_bipush (x := 21) dX12_sums_11 (by decide) (pc2 := 13) rfl ?_
  refine e_icmp_ne (tgt := 32) dX12_sums_13 (by decide) (pc2 := 16) rfl (fun c2 => ?_) (fun c2 => ?_)
  · have hf := if_f c2 hf
    refine e_aload_n dX12_sums_32 0 rfl rfl (pc2 := 33) rfl ?_
    refine e_getR (r := 129) fl_X12_93 dX12_sums_33 so_101 (rs_101_38 s.2.2) (by decide) (pc2 := 36) rfl ?_
    refine e_iload_n dX12_sums_36 1 rfl rfl (pc2 := 37) rfl ?_
    obtain ⟨g3, hf⟩ := gd_some hf
    refine e_iald dX12_sums_37 sa_129 (inb_v g3) (pc2 := 38) rfl ?_
    refine e_aload_n dX12_sums_38 0 rfl rfl (pc2 := 39) rfl ?_
    refine e_getR (r := 131) fl_X12_99 dX12_sums_39 so_101 (rs_101_40 s.2.2) (by decide) (pc2 := 42) rfl ?_
    refine e_iload_n dX12_sums_42 1 rfl rfl (pc2 := 43) rfl ?_
    obtain ⟨g4, hf⟩ := gd_some hf
    refine e_iald dX12_sums_43 sa_131 (inb_v g4) (pc2 := 44) rfl ?_
    refine e_iadd dX12_sums_44 (pc2 := 45) rfl ?_
    obtain ⟨g6, hf⟩ := gd_some hf
    obtain ⟨s5, es5, hf⟩ := ltb_s hf
    refine e_iast dX12_sums_45 sa_129 (inb_v g6) (h2 := hp s5) (by rw [es5]; rfl) (pc2 := 46) rfl ?_
    refine e_aload_n dX12_sums_46 0 rfl rfl (pc2 := 47) rfl ?_
    refine e_getR (r := 132) fl_X12_102 dX12_sums_47 so_101 (rs_101_41 s5.2.2) (by decide) (pc2 := 50) rfl ?_
    refine e_iload_n dX12_sums_50 1 rfl rfl (pc2 := 51) rfl ?_
    refine e_iconst (x := 0) dX12_sums_51 (by decide) (pc2 := 52) rfl ?_
    obtain ⟨g8, hf⟩ := gd_some hf
    obtain ⟨s7, es7, hf⟩ := ltb_s hf
    refine e_iast dX12_sums_52 sa_132 (inb_v g8) (h2 := hp s7) (by rw [es7]; rfl) (pc2 := 53) rfl ?_
    cases hf
    exact e_vret rfl dX12_sums_53
  · have hf := if_t c2 hf
    refine e_aload_n dX12_sums_16 0 rfl rfl (pc2 := 17) rfl ?_
    refine e_getR (r := 129) fl_X12_93 dX12_sums_17 so_101 (rs_101_38 s.2.2) (by decide) (pc2 := 20) rfl ?_
    refine e_iload_n dX12_sums_20 1 rfl rfl (pc2 := 21) rfl ?_
    obtain ⟨g9, hf⟩ := gd_some hf
    refine e_iald dX12_sums_21 sa_129 (inb_v g9) (pc2 := 22) rfl ?_
    refine e_aload_n dX12_sums_22 0 rfl rfl (pc2 := 23) rfl ?_
    refine e_getR (r := 131) fl_X12_99 dX12_sums_23 so_101 (rs_101_40 s.2.2) (by decide) (pc2 := 26) rfl ?_
    refine e_iload_n dX12_sums_26 1 rfl rfl (pc2 := 27) rfl ?_
    obtain ⟨g10, hf⟩ := gd_some hf
    refine e_iald dX12_sums_27 sa_131 (inb_v g10) (pc2 := 28) rfl ?_
    refine e_isub dX12_sums_28 (pc2 := 29) rfl ?_
    refine e_goto (tgt := 45) dX12_sums_29 (by decide) ?_
    obtain ⟨g12, hf⟩ := gd_some hf
    obtain ⟨s11, es11, hf⟩ := ltb_s hf
    refine e_iast dX12_sums_45 sa_129 (inb_v g12) (h2 := hp s11) (by rw [es11]; rfl) (pc2 := 46) rfl ?_
    refine e_aload_n dX12_sums_46 0 rfl rfl (pc2 := 47) rfl ?_
    refine e_getR (r := 132) fl_X12_102 dX12_sums_47 so_101 (rs_101_41 s11.2.2) (by decide) (pc2 := 50) rfl ?_
    refine e_iload_n dX12_sums_50 1 rfl rfl (pc2 := 51) rfl ?_
    refine e_iconst (x := 0) dX12_sums_51 (by decide) (pc2 := 52) rfl ?_
    obtain ⟨g14, hf⟩ := gd_some hf
    obtain ⟨s13, es13, hf⟩ := ltb_s hf
    refine e_iast dX12_sums_52 sa_132 (inb_v g14) (h2 := hp s13) (by rw [es13]; rfl) (pc2 := 53) rfl ?_
    cases hf
    exact e_vret rfl dX12_sums_53
abbrev DDX12_tests : Nat := 2
def f_X12_tests_j136 (v1 : Int32) (v2 : Int32) (s : HS) : Option HS :=
  gd (inb v1 7) (ltb (sI s 125 (v1.toNatClampNeg) v2) fun s13 => gd (inb v1 7) (ltb (sI s13 128 (v1.toNatClampNeg) 0) fun s15 => gd (inb v1 7) (ltb (sI s15 129 (v1.toNatClampNeg) 0) fun s17 => gd (inb v1 7) (ltb (sI s17 130 (v1.toNatClampNeg) 20) fun s19 => some s19))))
set_option maxRecDepth 20000 in
set_option maxHeartbeats 2000000 in
theorem t_X12_tests_j136 (v1 : Int32) (v2 : Int32) (s : HS) {t : HS}  (hf : f_X12_tests_j136 v1 v2 s = some t) : Ev DDX12_tests miX12_tests NF none NF (hp t) 136 NF [(0, .ref 101), (1, .int v1), (2, .int v2)] [] (hp s) := by
  refine e_aload_n dX12_tests_136 0 rfl rfl (pc2 := 137) rfl ?_
  refine e_getR (r := 125) fl_X12_81 dX12_tests_137 so_101 (rs_101_34 s.2.2) (by decide) (pc2 := 140) rfl ?_
  refine e_iload_n dX12_tests_140 1 rfl rfl (pc2 := 141) rfl ?_
  refine e_iload_n dX12_tests_141 2 rfl rfl (pc2 := 142) rfl ?_
  obtain ⟨g14, hf⟩ := gd_some hf
  obtain ⟨s13, es13, hf⟩ := ltb_s hf
  refine e_iast dX12_tests_142 sa_125 (inb_v g14) (h2 := hp s13) (by rw [es13]; rfl) (pc2 := 143) rfl ?_
  refine e_aload_n dX12_tests_143 0 rfl rfl (pc2 := 144) rfl ?_
  refine e_getR (r := 128) fl_X12_90 dX12_tests_144 so_101 (rs_101_37 s13.2.2) (by decide) (pc2 := 147) rfl ?_
  refine e_iload_n dX12_tests_147 1 rfl rfl (pc2 := 148) rfl ?_
  refine e_iconst (x := 0) dX12_tests_148 (by decide) (pc2 := 149) rfl ?_
  obtain ⟨g16, hf⟩ := gd_some hf
  obtain ⟨s15, es15, hf⟩ := ltb_s hf
  refine e_iast dX12_tests_149 sa_128 (inb_v g16) (h2 := hp s15) (by rw [es15]; rfl) (pc2 := 150) rfl ?_
  refine e_aload_n dX12_tests_150 0 rfl rfl (pc2 := 151) rfl ?_
  refine e_getR (r := 129) fl_X12_93 dX12_tests_151 so_101 (rs_101_38 s15.2.2) (by decide) (pc2 := 154) rfl ?_
  refine e_iload_n dX12_tests_154 1 rfl rfl (pc2 := 155) rfl ?_
  refine e_iconst (x := 0) dX12_tests_155 (by decide) (pc2 := 156) rfl ?_
  obtain ⟨g18, hf⟩ := gd_some hf
  obtain ⟨s17, es17, hf⟩ := ltb_s hf
  refine e_iast dX12_tests_156 sa_129 (inb_v g18) (h2 := hp s17) (by rw [es17]; rfl) (pc2 := 157) rfl ?_
  refine e_aload_n dX12_tests_157 0 rfl rfl (pc2 := 158) rfl ?_
  refine e_getR (r := 130) fl_X12_96 dX12_tests_158 so_101 (rs_101_39 s17.2.2) (by decide) (pc2 := 161) rfl ?_
  refine e_iload_n dX12_tests_161 1 rfl rfl (pc2 := 162) rfl ?_
  refine e_bipush (x := 20) dX12_tests_162 (by decide) (pc2 := 164) rfl ?_
  obtain ⟨g20, hf⟩ := gd_some hf
  obtain ⟨s19, es19, hf⟩ := ltb_s hf
  refine e_iast dX12_tests_164 sa_130 (inb_v g20) (h2 := hp s19) (by rw [es19]; rfl) (pc2 := 165) rfl ?_
  cases hf
  exact e_vret rfl dX12_tests_165
def f_X12_tests_j135 (v1 : Int32) (w0 : Int32) (s : HS) : Option HS :=
  f_X12_tests_j136 v1 w0 s
set_option maxRecDepth 20000 in
set_option maxHeartbeats 2000000 in
theorem t_X12_tests_j135 (v1 : Int32) (w0 : Int32) (s : HS) {t : HS}  (hf : f_X12_tests_j135 v1 w0 s = some t) : Ev DDX12_tests miX12_tests NF none NF (hp t) 135 NF [(0, .ref 101), (1, .int v1)] [.int w0] (hp s) := by
  refine e_istore_n dX12_tests_135 rfl (by decide) rfl (ls' := [(0, .ref 101), (1, .int v1), (2, .int w0)]) [1, 2, 0] rfl (pc2 := 136) rfl ?_
  exact t_X12_tests_j136 v1 w0 s hf
def f_X12_tests_j130 (v1 : Int32) (s : HS) : Option HS :=
  f_X12_tests_j135 v1 1 s
set_option maxRecDepth 20000 in
set_option maxHeartbeats 2000000 in
theorem t_X12_tests_j130 (v1 : Int32) (s : HS) {t : HS}  (hf : f_X12_tests_j130 v1 s = some t) : Ev DDX12_tests miX12_tests NF none NF (hp t) 130 NF [(0, .ref 101), (1, .int v1)] [] (hp s) := by
  refine e_iconst (x := 1) dX12_tests_130 (by decide) (pc2 := 131) rfl ?_
  refine e_goto (tgt := 135) dX12_tests_131 (by decide) ?_
  exact t_X12_tests_j135 v1 1 s hf
def f_X12_tests_j106 (v1 : Int32) (v2 : Int32) (s : HS) : Option HS :=
  gd (inb v1 7) ((if (s.1 126 v1.toNatClampNeg) = 27 then gd (inb v1 7) ((if (s.1 125 v1.toNatClampNeg) = 0 then (if v2 = 0 then f_X12_tests_j135 v1 0 s else f_X12_tests_j130 v1 s) else f_X12_tests_j130 v1 s)) else f_X12_tests_j136 v1 v2 s))
set_option maxRecDepth 20000 in
set_option maxHeartbeats 2000000 in
theorem t_X12_tests_j106 (v1 : Int32) (v2 : Int32) (s : HS) {t : HS}  (hf : f_X12_tests_j106 v1 v2 s = some t) : Ev DDX12_tests miX12_tests NF none NF (hp t) 106 NF [(0, .ref 101), (1, .int v1), (2, .int v2)] [] (hp s) := by
  refine e_aload_n dX12_tests_106 0 rfl rfl (pc2 := 107) rfl ?_
  refine e_getR (r := 126) fl_X12_84 dX12_tests_107 so_101 (rs_101_35 s.2.2) (by decide) (pc2 := 110) rfl ?_
  refine e_iload_n dX12_tests_110 1 rfl rfl (pc2 := 111) rfl ?_
  obtain ⟨g11, hf⟩ := gd_some hf
  refine e_iald dX12_tests_111 sa_126 (inb_v g11) (pc2 := 112) rfl ?_
  refine e_bipush (x := 27) dX12_tests_112 (by decide) (pc2 := 114) rfl ?_
  refine e_icmp_ne (tgt := 136) dX12_tests_114 (by decide) (pc2 := 117) rfl (fun c12 => ?_) (fun c12 => ?_)
  · have hf := if_f c12 hf
    exact t_X12_tests_j136 v1 v2 s hf
  · have hf := if_t c12 hf
    refine e_aload_n dX12_tests_117 0 rfl rfl (pc2 := 118) rfl ?_
    refine e_getR (r := 125) fl_X12_81 dX12_tests_118 so_101 (rs_101_34 s.2.2) (by decide) (pc2 := 121) rfl ?_
    refine e_iload_n dX12_tests_121 1 rfl rfl (pc2 := 122) rfl ?_
    obtain ⟨g21, hf⟩ := gd_some hf
    refine e_iald dX12_tests_122 sa_125 (inb_v g21) (pc2 := 123) rfl ?_
    refine e_if_ne (tgt := 130) dX12_tests_123 (by decide) (pc2 := 126) rfl (fun c22 => ?_) (fun c22 => ?_)
    · have hf := if_f c22 hf
      refine ev_sub [0, 1] rfl ?_
      exact t_X12_tests_j130 v1 s hf
    · have hf := if_t c22 hf
      refine e_iload_n dX12_tests_126 2 rfl rfl (pc2 := 127) rfl ?_
      refine e_if_eq (tgt := 134) dX12_tests_127 (by decide) (pc2 := 130) rfl (fun c23 => ?_) (fun c23 => ?_)
      · have hf := if_t c23 hf
        refine e_iconst (x := 0) dX12_tests_134 (by decide) (pc2 := 135) rfl ?_
        refine ev_sub [0, 1] rfl ?_
        exact t_X12_tests_j135 v1 0 s hf
      · have hf := if_f c23 hf
        refine ev_sub [0, 1] rfl ?_
        exact t_X12_tests_j130 v1 s hf
def f_X12_tests_j105 (v1 : Int32) (w0 : Int32) (s : HS) : Option HS :=
  f_X12_tests_j106 v1 w0 s
set_option maxRecDepth 20000 in
set_option maxHeartbeats 2000000 in
theorem t_X12_tests_j105 (v1 : Int32) (w0 : Int32) (s : HS) {t : HS}  (hf : f_X12_tests_j105 v1 w0 s = some t) : Ev DDX12_tests miX12_tests NF none NF (hp t) 105 NF [(0, .ref 101), (1, .int v1)] [.int w0] (hp s) := by
  refine e_istore_n dX12_tests_105 rfl (by decide) rfl (ls' := [(0, .ref 101), (1, .int v1), (2, .int w0)]) [1, 2, 0] rfl (pc2 := 106) rfl ?_
  exact t_X12_tests_j106 v1 w0 s hf
def f_X12_tests_j104 (v1 : Int32) (s : HS) : Option HS :=
  f_X12_tests_j105 v1 0 s
set_option maxRecDepth 20000 in
set_option maxHeartbeats 2000000 in
theorem t_X12_tests_j104 (v1 : Int32) (s : HS) {t : HS}  (hf : f_X12_tests_j104 v1 s = some t) : Ev DDX12_tests miX12_tests NF none NF (hp t) 104 NF [(0, .ref 101), (1, .int v1)] [] (hp s) := by
  refine e_iconst (x := 0) dX12_tests_104 (by decide) (pc2 := 105) rfl ?_
  exact t_X12_tests_j105 v1 0 s hf
def f_X12_tests_j76 (v1 : Int32) (v2 : Int32) (s : HS) : Option HS :=
  gd (inb v1 7) ((if (s.1 126 v1.toNatClampNeg) = 26 then gd (inb v1 7) ((if (s.1 125 v1.toNatClampNeg) = 0 then f_X12_tests_j104 v1 s else (if v2 = 0 then f_X12_tests_j104 v1 s else f_X12_tests_j105 v1 1 s))) else f_X12_tests_j106 v1 v2 s))
set_option maxRecDepth 20000 in
set_option maxHeartbeats 2000000 in
theorem t_X12_tests_j76 (v1 : Int32) (v2 : Int32) (s : HS) {t : HS}  (hf : f_X12_tests_j76 v1 v2 s = some t) : Ev DDX12_tests miX12_tests NF none NF (hp t) 76 NF [(0, .ref 101), (1, .int v1), (2, .int v2)] [] (hp s) := by
  refine e_aload_n dX12_tests_76 0 rfl rfl (pc2 := 77) rfl ?_
  refine e_getR (r := 126) fl_X12_84 dX12_tests_77 so_101 (rs_101_35 s.2.2) (by decide) (pc2 := 80) rfl ?_
  refine e_iload_n dX12_tests_80 1 rfl rfl (pc2 := 81) rfl ?_
  obtain ⟨g9, hf⟩ := gd_some hf
  refine e_iald dX12_tests_81 sa_126 (inb_v g9) (pc2 := 82) rfl ?_
  refine e_bipush (x := 26) dX12_tests_82 (by decide) (pc2 := 84) rfl ?_
  refine e_icmp_ne (tgt := 106) dX12_tests_84 (by decide) (pc2 := 87) rfl (fun c10 => ?_) (fun c10 => ?_)
  · have hf := if_f c10 hf
    exact t_X12_tests_j106 v1 v2 s hf
  · have hf := if_t c10 hf
    refine e_aload_n dX12_tests_87 0 rfl rfl (pc2 := 88) rfl ?_
    refine e_getR (r := 125) fl_X12_81 dX12_tests_88 so_101 (rs_101_34 s.2.2) (by decide) (pc2 := 91) rfl ?_
    refine e_iload_n dX12_tests_91 1 rfl rfl (pc2 := 92) rfl ?_
    obtain ⟨g24, hf⟩ := gd_some hf
    refine e_iald dX12_tests_92 sa_125 (inb_v g24) (pc2 := 93) rfl ?_
    refine e_if_eq (tgt := 104) dX12_tests_93 (by decide) (pc2 := 96) rfl (fun c25 => ?_) (fun c25 => ?_)
    · have hf := if_t c25 hf
      refine ev_sub [0, 1] rfl ?_
      exact t_X12_tests_j104 v1 s hf
    · have hf := if_f c25 hf
      refine e_iload_n dX12_tests_96 2 rfl rfl (pc2 := 97) rfl ?_
      refine e_if_eq (tgt := 104) dX12_tests_97 (by decide) (pc2 := 100) rfl (fun c26 => ?_) (fun c26 => ?_)
      · have hf := if_t c26 hf
        refine ev_sub [0, 1] rfl ?_
        exact t_X12_tests_j104 v1 s hf
      · have hf := if_f c26 hf
        refine e_iconst (x := 1) dX12_tests_100 (by decide) (pc2 := 101) rfl ?_
        refine e_goto (tgt := 105) dX12_tests_101 (by decide) ?_
        refine ev_sub [0, 1] rfl ?_
        exact t_X12_tests_j105 v1 1 s hf
def f_X12_tests_j75 (v1 : Int32) (w0 : Int32) (s : HS) : Option HS :=
  f_X12_tests_j76 v1 w0 s
set_option maxRecDepth 20000 in
set_option maxHeartbeats 2000000 in
theorem t_X12_tests_j75 (v1 : Int32) (w0 : Int32) (s : HS) {t : HS}  (hf : f_X12_tests_j75 v1 w0 s = some t) : Ev DDX12_tests miX12_tests NF none NF (hp t) 75 NF [(0, .ref 101), (1, .int v1)] [.int w0] (hp s) := by
  refine e_istore_n dX12_tests_75 rfl (by decide) rfl (ls' := [(0, .ref 101), (1, .int v1), (2, .int w0)]) [1, 2, 0] rfl (pc2 := 76) rfl ?_
  exact t_X12_tests_j76 v1 w0 s hf
def f_X12_tests_j44 (v1 : Int32) (v2 : Int32) (s : HS) : Option HS :=
  gd (inb v1 7) ((if (s.1 128 v1.toNatClampNeg) = 25 then gd (inb v1 7) (gd (inb v1 7) ((if (s.1 127 v1.toNatClampNeg) = (s.1 129 v1.toNatClampNeg) then f_X12_tests_j75 v1 1 s else f_X12_tests_j75 v1 0 s))) else f_X12_tests_j76 v1 v2 s))
set_option maxRecDepth 20000 in
set_option maxHeartbeats 2000000 in
theorem t_X12_tests_j44 (v1 : Int32) (v2 : Int32) (s : HS) {t : HS}  (hf : f_X12_tests_j44 v1 v2 s = some t) : Ev DDX12_tests miX12_tests NF none NF (hp t) 44 NF [(0, .ref 101), (1, .int v1), (2, .int v2)] [] (hp s) := by
  refine e_aload_n dX12_tests_44 0 rfl rfl (pc2 := 45) rfl ?_
  refine e_getR (r := 128) fl_X12_90 dX12_tests_45 so_101 (rs_101_37 s.2.2) (by decide) (pc2 := 48) rfl ?_
  refine e_iload_n dX12_tests_48 1 rfl rfl (pc2 := 49) rfl ?_
  obtain ⟨g7, hf⟩ := gd_some hf
  refine e_iald dX12_tests_49 sa_128 (inb_v g7) (pc2 := 50) rfl ?_
  refine e_bipush (x := 25) dX12_tests_50 (by decide) (pc2 := 52) rfl ?_
  refine e_icmp_ne (tgt := 76) dX12_tests_52 (by decide) (pc2 := 55) rfl (fun c8 => ?_) (fun c8 => ?_)
  · have hf := if_f c8 hf
    exact t_X12_tests_j76 v1 v2 s hf
  · have hf := if_t c8 hf
    refine e_aload_n dX12_tests_55 0 rfl rfl (pc2 := 56) rfl ?_
    refine e_getR (r := 127) fl_X12_87 dX12_tests_56 so_101 (rs_101_36 s.2.2) (by decide) (pc2 := 59) rfl ?_
    refine e_iload_n dX12_tests_59 1 rfl rfl (pc2 := 60) rfl ?_
    obtain ⟨g27, hf⟩ := gd_some hf
    refine e_iald dX12_tests_60 sa_127 (inb_v g27) (pc2 := 61) rfl ?_
    refine e_aload_n dX12_tests_61 0 rfl rfl (pc2 := 62) rfl ?_
    refine e_getR (r := 129) fl_X12_93 dX12_tests_62 so_101 (rs_101_38 s.2.2) (by decide) (pc2 := 65) rfl ?_
    refine e_iload_n dX12_tests_65 1 rfl rfl (pc2 := 66) rfl ?_
    obtain ⟨g28, hf⟩ := gd_some hf
    refine e_iald dX12_tests_66 sa_129 (inb_v g28) (pc2 := 67) rfl ?_
    refine e_icmp_ne (tgt := 74) dX12_tests_67 (by decide) (pc2 := 70) rfl (fun c29 => ?_) (fun c29 => ?_)
    · have hf := if_f c29 hf
      refine e_iconst (x := 0) dX12_tests_74 (by decide) (pc2 := 75) rfl ?_
      refine ev_sub [0, 1] rfl ?_
      exact t_X12_tests_j75 v1 0 s hf
    · have hf := if_t c29 hf
      refine e_iconst (x := 1) dX12_tests_70 (by decide) (pc2 := 71) rfl ?_
      refine e_goto (tgt := 75) dX12_tests_71 (by decide) ?_
      refine ev_sub [0, 1] rfl ?_
      exact t_X12_tests_j75 v1 1 s hf
def f_X12_tests_j43 (v1 : Int32) (w0 : Int32) (s : HS) : Option HS :=
  f_X12_tests_j44 v1 w0 s
set_option maxRecDepth 20000 in
set_option maxHeartbeats 2000000 in
theorem t_X12_tests_j43 (v1 : Int32) (w0 : Int32) (s : HS) {t : HS}  (hf : f_X12_tests_j43 v1 w0 s = some t) : Ev DDX12_tests miX12_tests NF none NF (hp t) 43 NF [(0, .ref 101), (1, .int v1)] [.int w0] (hp s) := by
  refine e_istore_n dX12_tests_43 rfl (by decide) rfl (ls' := [(0, .ref 101), (1, .int v1), (2, .int w0)]) [1, 2, 0] rfl (pc2 := 44) rfl ?_
  exact t_X12_tests_j44 v1 w0 s hf
def f_X12_tests (v1 : Int32) (s : HS) : Option HS :=
  bnd (f_X12_sums v1 s) fun s2 => gd (inb v1 7) (ltb (s2.1 129 v1.toNatClampNeg) fun x4 => gd (inb v1 7) ((if (s2.1 128 v1.toNatClampNeg) = 24 then gd (inb v1 7) (gd (inb v1 7) ((if (s2.1 129 v1.toNatClampNeg) ≤ (s2.1 127 v1.toNatClampNeg) then f_X12_tests_j43 v1 0 s2 else f_X12_tests_j43 v1 1 s2))) else f_X12_tests_j44 v1 x4 s2)))
set_option maxRecDepth 20000 in
set_option maxHeartbeats 2000000 in
theorem t_X12_tests (v1 : Int32) (s : HS) {t : HS} (hf : f_X12_tests  v1 s = some t) : Mt DDX12_tests miX12_tests [.ref 101, .int v1] NF (hp s) none NF (hp t) := by
  refine Mt.of (by decide +kernel) (Nat.le_refl _) (Nat.le_of_ble_eq_true rfl) ?_
  show Ev DDX12_tests miX12_tests NF none NF (hp t) 0 NF [(0, .ref 101), (1, .int v1)] [] (hp s)
  unfold f_X12_tests at hf
  refine e_aload_n dX12_tests_0 0 rfl rfl (pc2 := 1) rfl ?_
  refine e_iload_n dX12_tests_1 1 rfl rfl (pc2 := 2) rfl ?_
  obtain ⟨s2, hy1, hf⟩ := bnd_s hf
  refine e_callVn (t_X12_sums v1 s hy1) dX12_tests_2 cv_X12_270 rfl so_101 rc_11 (by decide) (by first | exact Nat.le_of_ble_eq_true rfl | simp [rva_cat, vc_i, vc_r, vc_l, vc_n]) nn0 rfl (pc2 := 5) rfl ?_
  refine e_aload_n dX12_tests_5 0 rfl rfl (pc2 := 6) rfl ?_
  refine e_getR (r := 129) fl_X12_93 dX12_tests_6 so_101 (rs_101_38 s2.2.2) (by decide) (pc2 := 9) rfl ?_
  refine e_iload_n dX12_tests_9 1 rfl rfl (pc2 := 10) rfl ?_
  obtain ⟨g3, hf⟩ := gd_some hf
  refine e_iald dX12_tests_10 sa_129 (inb_v g3) (pc2 := 11) rfl ?_
  obtain ⟨x4, ex4, hf⟩ := ltb_s hf
  refine e_istore_n dX12_tests_11 rfl (by decide) ex4.symm (ls' := [(0, .ref 101), (1, .int v1), (2, .int x4)]) [1, 2, 0] rfl (pc2 := 12) rfl ?_
  refine e_aload_n dX12_tests_12 0 rfl rfl (pc2 := 13) rfl ?_
  refine e_getR (r := 128) fl_X12_90 dX12_tests_13 so_101 (rs_101_37 s2.2.2) (by decide) (pc2 := 16) rfl ?_
  refine e_iload_n dX12_tests_16 1 rfl rfl (pc2 := 17) rfl ?_
  obtain ⟨g5, hf⟩ := gd_some hf
  refine e_iald dX12_tests_17 sa_128 (inb_v g5) (pc2 := 18) rfl ?_
  refine e_bipush (x := 24) dX12_tests_18 (by decide) (pc2 := 20) rfl ?_
  refine e_icmp_ne (tgt := 44) dX12_tests_20 (by decide) (pc2 := 23) rfl (fun c6 => ?_) (fun c6 => ?_)
  · have hf := if_f c6 hf
    exact t_X12_tests_j44 v1 x4 s2 hf
  · have hf := if_t c6 hf
    refine e_aload_n dX12_tests_23 0 rfl rfl (pc2 := 24) rfl ?_
    refine e_getR (r := 127) fl_X12_87 dX12_tests_24 so_101 (rs_101_36 s2.2.2) (by decide) (pc2 := 27) rfl ?_
    refine e_iload_n dX12_tests_27 1 rfl rfl (pc2 := 28) rfl ?_
    obtain ⟨g30, hf⟩ := gd_some hf
    refine e_iald dX12_tests_28 sa_127 (inb_v g30) (pc2 := 29) rfl ?_
    refine e_aload_n dX12_tests_29 0 rfl rfl (pc2 := 30) rfl ?_
    refine e_getR (r := 129) fl_X12_93 dX12_tests_30 so_101 (rs_101_38 s2.2.2) (by decide) (pc2 := 33) rfl ?_
    refine e_iload_n dX12_tests_33 1 rfl rfl (pc2 := 34) rfl ?_
    obtain ⟨g31, hf⟩ := gd_some hf
    refine e_iald dX12_tests_34 sa_129 (inb_v g31) (pc2 := 35) rfl ?_
    refine e_icmp_ge (tgt := 42) dX12_tests_35 (by decide) (pc2 := 38) rfl (fun c32 => ?_) (fun c32 => ?_)
    · have hf := if_t c32 hf
      refine e_iconst (x := 0) dX12_tests_42 (by decide) (pc2 := 43) rfl ?_
      refine ev_sub [0, 1] rfl ?_
      exact t_X12_tests_j43 v1 0 s2 hf
    · have hf := if_f c32 hf
      refine e_iconst (x := 1) dX12_tests_38 (by decide) (pc2 := 39) rfl ?_
      refine e_goto (tgt := 43) dX12_tests_39 (by decide) ?_
      refine ev_sub [0, 1] rfl ?_
      exact t_X12_tests_j43 v1 1 s2 hf
abbrev DDX12_worked : Nat := 3
def f_X12_worked_j329 (v1 : Int32) (v2 : Int32) (v3 : Int32) (k14 : Int32 → Int32 → HS → Option (Int32 × HS)) (s : HS) : Option (Int32 × HS) :=
  ltb (v3 + 1) fun x16 => k14 v2 x16 s
set_option maxRecDepth 20000 in
set_option maxHeartbeats 2000000 in
theorem t_X12_worked_j329 (v1 : Int32) (v2 : Int32) (v3 : Int32) (s : HS) {x : Int32} {t : HS} (k14 : Int32 → Int32 → HS → Option (Int32 × HS)) (hk14 : ∀ (a2 : Int32) (a3 : Int32) (s : HS), k14 a2 a3 s = some (x, t) → Ev DDX12_worked miX12_worked NF (some (.int x)) NF (hp t) 14 NF [(0, .ref 101), (1, .int v1), (2, .int a2), (3, .int a3)] [] (hp s)) (hf : f_X12_worked_j329 v1 v2 v3 k14 s = some (x, t)) : Ev DDX12_worked miX12_worked NF (some (.int x)) NF (hp t) 329 NF [(0, .ref 101), (1, .int v1), (2, .int v2), (3, .int v3)] [] (hp s) := by
  obtain ⟨x16, ex16, hf⟩ := ltb_s hf
  refine e_iinc dX12_worked_329 3 rfl (c9 := 1) (by decide) ex16.symm (by decide) (ls' := [(0, .ref 101), (1, .int v1), (2, .int v2), (3, .int x16)]) [1, 2, 3, 0] rfl (pc2 := 332) rfl ?_
  refine e_goto (tgt := 14) dX12_worked_332 (by decide) ?_
  exact hk14 v2 x16 s hf
def f_X12_worked_j66 (v1 : Int32) (v2 : Int32) (v3 : Int32) (w0 : Int32) (w1 : Int32) (k14 : Int32 → Int32 → HS → Option (Int32 × HS)) (s : HS) : Option (Int32 × HS) :=
  gd (inb w1 7) (ltb (sI s 133 (w1.toNatClampNeg) w0) fun s12 => bnd (f_X12_opens v2 s12) fun s15 => f_X12_worked_j329 v1 v2 v3 k14 s15)
set_option maxRecDepth 20000 in
set_option maxHeartbeats 2000000 in
theorem t_X12_worked_j66 (v1 : Int32) (v2 : Int32) (v3 : Int32) (w0 : Int32) (w1 : Int32) (s : HS) {x : Int32} {t : HS} (k14 : Int32 → Int32 → HS → Option (Int32 × HS)) (hk14 : ∀ (a2 : Int32) (a3 : Int32) (s : HS), k14 a2 a3 s = some (x, t) → Ev DDX12_worked miX12_worked NF (some (.int x)) NF (hp t) 14 NF [(0, .ref 101), (1, .int v1), (2, .int a2), (3, .int a3)] [] (hp s)) (hf : f_X12_worked_j66 v1 v2 v3 w0 w1 k14 s = some (x, t)) : Ev DDX12_worked miX12_worked NF (some (.int x)) NF (hp t) 66 NF [(0, .ref 101), (1, .int v1), (2, .int v2), (3, .int v3)] [.int w0, .int w1, .ref 133] (hp s) := by
  obtain ⟨g13, hf⟩ := gd_some hf
  obtain ⟨s12, es12, hf⟩ := ltb_s hf
  refine e_iast dX12_worked_66 sa_133 (inb_v g13) (h2 := hp s12) (by rw [es12]; rfl) (pc2 := 67) rfl ?_
  refine e_aload_n dX12_worked_67 0 rfl rfl (pc2 := 68) rfl ?_
  refine e_iload_n dX12_worked_68 2 rfl rfl (pc2 := 69) rfl ?_
  obtain ⟨s15, hy14, hf⟩ := bnd_s hf
  refine e_callVn (t_X12_opens v2 s12 hy14) dX12_worked_69 cv_X12_273 rfl so_101 rc_11 (by decide) (by first | exact Nat.le_of_ble_eq_true rfl | simp [rva_cat, vc_i, vc_r, vc_l, vc_n]) nn0 rfl (pc2 := 72) rfl ?_
  refine e_goto (tgt := 329) dX12_worked_72 (by decide) ?_
  exact t_X12_worked_j329 v1 v2 v3 s15 _ hk14 hf
def f_X12_worked_j46 (v1 : Int32) (v2 : Int32) (v3 : Int32) (v4 : Int32) (k14 : Int32 → Int32 → HS → Option (Int32 × HS)) (s : HS) : Option (Int32 × HS) :=
  ltb (v2 + 1) fun x10 => (if v4 = 30 then f_X12_worked_j66 v1 x10 v3 1 x10 k14 s else f_X12_worked_j66 v1 x10 v3 0 x10 k14 s)
set_option maxRecDepth 20000 in
set_option maxHeartbeats 2000000 in
theorem t_X12_worked_j46 (v1 : Int32) (v2 : Int32) (v3 : Int32) (v4 : Int32) (s : HS) {x : Int32} {t : HS} (k14 : Int32 → Int32 → HS → Option (Int32 × HS)) (hk14 : ∀ (a2 : Int32) (a3 : Int32) (s : HS), k14 a2 a3 s = some (x, t) → Ev DDX12_worked miX12_worked NF (some (.int x)) NF (hp t) 14 NF [(0, .ref 101), (1, .int v1), (2, .int a2), (3, .int a3)] [] (hp s)) (hf : f_X12_worked_j46 v1 v2 v3 v4 k14 s = some (x, t)) : Ev DDX12_worked miX12_worked NF (some (.int x)) NF (hp t) 46 NF [(0, .ref 101), (1, .int v1), (2, .int v2), (3, .int v3), (4, .int v4)] [] (hp s) := by
  obtain ⟨x10, ex10, hf⟩ := ltb_s hf
  refine e_iinc dX12_worked_46 2 rfl (c9 := 1) (by decide) ex10.symm (by decide) (ls' := [(0, .ref 101), (1, .int v1), (2, .int x10), (3, .int v3), (4, .int v4)]) [1, 2, 0, 3, 4] rfl (pc2 := 49) rfl ?_
  refine e_aload_n dX12_worked_49 0 rfl rfl (pc2 := 50) rfl ?_
  refine e_getR (r := 133) fl_X12_105 dX12_worked_50 so_101 (rs_101_42 s.2.2) (by decide) (pc2 := 53) rfl ?_
  refine e_iload_n dX12_worked_53 2 rfl rfl (pc2 := 54) rfl ?_
  refine e_iload dX12_worked_54 4 rfl (pc2 := 56) rfl ?_
  refine e_bipush (x := 30) dX12_worked_56 (by decide) (pc2 := 58) rfl ?_
  refine e_icmp_ne (tgt := 65) dX12_worked_58 (by decide) (pc2 := 61) rfl (fun c11 => ?_) (fun c11 => ?_)
  · have hf := if_f c11 hf
    refine e_iconst (x := 0) dX12_worked_65 (by decide) (pc2 := 66) rfl ?_
    refine ev_sub [0, 1, 2, 3] rfl ?_
    exact t_X12_worked_j66 v1 x10 v3 0 x10 s _ hk14 hf
  · have hf := if_t c11 hf
    refine e_iconst (x := 1) dX12_worked_61 (by decide) (pc2 := 62) rfl ?_
    refine e_goto (tgt := 66) dX12_worked_62 (by decide) ?_
    refine ev_sub [0, 1, 2, 3] rfl ?_
    exact t_X12_worked_j66 v1 x10 v3 1 x10 s _ hk14 hf
def f_X12_worked_j89 (v1 : Int32) (v2 : Int32) (v3 : Int32) (v4 : Int32) (k14 : Int32 → Int32 → HS → Option (Int32 × HS)) (s : HS) : Option (Int32 × HS) :=
  bnd (f_X12_sums v2 s) fun s20 => gd (inb v2 7) (ltb (sI s20 130 (v2.toNatClampNeg) v4) fun s21 => f_X12_worked_j329 v1 v2 v3 k14 s21)
set_option maxRecDepth 20000 in
set_option maxHeartbeats 2000000 in
theorem t_X12_worked_j89 (v1 : Int32) (v2 : Int32) (v3 : Int32) (v4 : Int32) (s : HS) {x : Int32} {t : HS} (k14 : Int32 → Int32 → HS → Option (Int32 × HS)) (hk14 : ∀ (a2 : Int32) (a3 : Int32) (s : HS), k14 a2 a3 s = some (x, t) → Ev DDX12_worked miX12_worked NF (some (.int x)) NF (hp t) 14 NF [(0, .ref 101), (1, .int v1), (2, .int a2), (3, .int a3)] [] (hp s)) (hf : f_X12_worked_j89 v1 v2 v3 v4 k14 s = some (x, t)) : Ev DDX12_worked miX12_worked NF (some (.int x)) NF (hp t) 89 NF [(0, .ref 101), (1, .int v1), (2, .int v2), (3, .int v3), (4, .int v4)] [] (hp s) := by
  refine e_aload_n dX12_worked_89 0 rfl rfl (pc2 := 90) rfl ?_
  refine e_iload_n dX12_worked_90 2 rfl rfl (pc2 := 91) rfl ?_
  obtain ⟨s20, hy19, hf⟩ := bnd_s hf
  refine e_callVn (t_X12_sums v2 s hy19) dX12_worked_91 cv_X12_270 rfl so_101 rc_11 (by decide) (by first | exact Nat.le_of_ble_eq_true rfl | simp [rva_cat, vc_i, vc_r, vc_l, vc_n]) nn0 rfl (pc2 := 94) rfl ?_
  refine e_aload_n dX12_worked_94 0 rfl rfl (pc2 := 95) rfl ?_
  refine e_getR (r := 130) fl_X12_96 dX12_worked_95 so_101 (rs_101_39 s20.2.2) (by decide) (pc2 := 98) rfl ?_
  refine e_iload_n dX12_worked_98 2 rfl rfl (pc2 := 99) rfl ?_
  refine e_iload dX12_worked_99 4 rfl (pc2 := 101) rfl ?_
  obtain ⟨g22, hf⟩ := gd_some hf
  obtain ⟨s21, es21, hf⟩ := ltb_s hf
  refine e_iast dX12_worked_101 sa_130 (inb_v g22) (h2 := hp s21) (by rw [es21]; rfl) (pc2 := 102) rfl ?_
  refine e_goto (tgt := 329) dX12_worked_102 (by decide) ?_
  refine ev_sub [0, 1, 2, 3] rfl ?_
  exact t_X12_worked_j329 v1 v2 v3 s21 _ hk14 hf
def f_X12_worked_j137 (v1 : Int32) (v2 : Int32) (v3 : Int32) (v4 : Int32) (k14 : Int32 → Int32 → HS → Option (Int32 × HS)) (s : HS) : Option (Int32 × HS) :=
  bnd (f_X12_sums v2 s) fun s27 => gd (inb v2 7) (gd (inb v2 7) (ltb (sI s27 127 (v2.toNatClampNeg) (s27.1 129 v2.toNatClampNeg)) fun s29 => gd (inb v2 7) (ltb (sI s29 128 (v2.toNatClampNeg) v4) fun s31 => gd (inb v2 7) (ltb (sI s31 129 (v2.toNatClampNeg) 0) fun s33 => gd (inb v2 7) (ltb (sI s33 130 (v2.toNatClampNeg) 20) fun s35 => f_X12_worked_j329 v1 v2 v3 k14 s35)))))
set_option maxRecDepth 20000 in
set_option maxHeartbeats 2000000 in
theorem t_X12_worked_j137 (v1 : Int32) (v2 : Int32) (v3 : Int32) (v4 : Int32) (s : HS) {x : Int32} {t : HS} (k14 : Int32 → Int32 → HS → Option (Int32 × HS)) (hk14 : ∀ (a2 : Int32) (a3 : Int32) (s : HS), k14 a2 a3 s = some (x, t) → Ev DDX12_worked miX12_worked NF (some (.int x)) NF (hp t) 14 NF [(0, .ref 101), (1, .int v1), (2, .int a2), (3, .int a3)] [] (hp s)) (hf : f_X12_worked_j137 v1 v2 v3 v4 k14 s = some (x, t)) : Ev DDX12_worked miX12_worked NF (some (.int x)) NF (hp t) 137 NF [(0, .ref 101), (1, .int v1), (2, .int v2), (3, .int v3), (4, .int v4)] [] (hp s) := by
  refine e_aload_n dX12_worked_137 0 rfl rfl (pc2 := 138) rfl ?_
  refine e_iload_n dX12_worked_138 2 rfl rfl (pc2 := 139) rfl ?_
  obtain ⟨s27, hy26, hf⟩ := bnd_s hf
  refine e_callVn (t_X12_sums v2 s hy26) dX12_worked_139 cv_X12_270 rfl so_101 rc_11 (by decide) (by first | exact Nat.le_of_ble_eq_true rfl | simp [rva_cat, vc_i, vc_r, vc_l, vc_n]) nn0 rfl (pc2 := 142) rfl ?_
  refine e_aload_n dX12_worked_142 0 rfl rfl (pc2 := 143) rfl ?_
  refine e_getR (r := 127) fl_X12_87 dX12_worked_143 so_101 (rs_101_36 s27.2.2) (by decide) (pc2 := 146) rfl ?_
  refine e_iload_n dX12_worked_146 2 rfl rfl (pc2 := 147) rfl ?_
  refine e_aload_n dX12_worked_147 0 rfl rfl (pc2 := 148) rfl ?_
  refine e_getR (r := 129) fl_X12_93 dX12_worked_148 so_101 (rs_101_38 s27.2.2) (by decide) (pc2 := 151) rfl ?_
  refine e_iload_n dX12_worked_151 2 rfl rfl (pc2 := 152) rfl ?_
  obtain ⟨g28, hf⟩ := gd_some hf
  refine e_iald dX12_worked_152 sa_129 (inb_v g28) (pc2 := 153) rfl ?_
  obtain ⟨g30, hf⟩ := gd_some hf
  obtain ⟨s29, es29, hf⟩ := ltb_s hf
  refine e_iast dX12_worked_153 sa_127 (inb_v g30) (h2 := hp s29) (by rw [es29]; rfl) (pc2 := 154) rfl ?_
  refine e_aload_n dX12_worked_154 0 rfl rfl (pc2 := 155) rfl ?_
  refine e_getR (r := 128) fl_X12_90 dX12_worked_155 so_101 (rs_101_37 s29.2.2) (by decide) (pc2 := 158) rfl ?_
  refine e_iload_n dX12_worked_158 2 rfl rfl (pc2 := 159) rfl ?_
  refine e_iload dX12_worked_159 4 rfl (pc2 := 161) rfl ?_
  obtain ⟨g32, hf⟩ := gd_some hf
  obtain ⟨s31, es31, hf⟩ := ltb_s hf
  refine e_iast dX12_worked_161 sa_128 (inb_v g32) (h2 := hp s31) (by rw [es31]; rfl) (pc2 := 162) rfl ?_
  refine e_aload_n dX12_worked_162 0 rfl rfl (pc2 := 163) rfl ?_
  refine e_getR (r := 129) fl_X12_93 dX12_worked_163 so_101 (rs_101_38 s31.2.2) (by decide) (pc2 := 166) rfl ?_
  refine e_iload_n dX12_worked_166 2 rfl rfl (pc2 := 167) rfl ?_
  refine e_iconst (x := 0) dX12_worked_167 (by decide) (pc2 := 168) rfl ?_
  obtain ⟨g34, hf⟩ := gd_some hf
  obtain ⟨s33, es33, hf⟩ := ltb_s hf
  refine e_iast dX12_worked_168 sa_129 (inb_v g34) (h2 := hp s33) (by rw [es33]; rfl) (pc2 := 169) rfl ?_
  refine e_aload_n dX12_worked_169 0 rfl rfl (pc2 := 170) rfl ?_
  refine e_getR (r := 130) fl_X12_96 dX12_worked_170 so_101 (rs_101_39 s33.2.2) (by decide) (pc2 := 173) rfl ?_
  refine e_iload_n dX12_worked_173 2 rfl rfl (pc2 := 174) rfl ?_
  refine e_bipush (x := 20) dX12_worked_174 (by decide) (pc2 := 176) rfl ?_
  obtain ⟨g36, hf⟩ := gd_some hf
  obtain ⟨s35, es35, hf⟩ := ltb_s hf
  refine e_iast dX12_worked_176 sa_130 (inb_v g36) (h2 := hp s35) (by rw [es35]; rfl) (pc2 := 177) rfl ?_
  refine e_goto (tgt := 329) dX12_worked_177 (by decide) ?_
  refine ev_sub [0, 1, 2, 3] rfl ?_
  exact t_X12_worked_j329 v1 v2 v3 s35 _ hk14 hf
def f_X12_worked_j194 (v1 : Int32) (v2 : Int32) (v3 : Int32) (v4 : Int32) (k14 : Int32 → Int32 → HS → Option (Int32 × HS)) (s : HS) : Option (Int32 × HS) :=
  bnd (f_X12_tests v2 s) fun s40 => gd (inb v2 7) (ltb (sI s40 126 (v2.toNatClampNeg) v4) fun s41 => f_X12_worked_j329 v1 v2 v3 k14 s41)
set_option maxRecDepth 20000 in
set_option maxHeartbeats 2000000 in
theorem t_X12_worked_j194 (v1 : Int32) (v2 : Int32) (v3 : Int32) (v4 : Int32) (s : HS) {x : Int32} {t : HS} (k14 : Int32 → Int32 → HS → Option (Int32 × HS)) (hk14 : ∀ (a2 : Int32) (a3 : Int32) (s : HS), k14 a2 a3 s = some (x, t) → Ev DDX12_worked miX12_worked NF (some (.int x)) NF (hp t) 14 NF [(0, .ref 101), (1, .int v1), (2, .int a2), (3, .int a3)] [] (hp s)) (hf : f_X12_worked_j194 v1 v2 v3 v4 k14 s = some (x, t)) : Ev DDX12_worked miX12_worked NF (some (.int x)) NF (hp t) 194 NF [(0, .ref 101), (1, .int v1), (2, .int v2), (3, .int v3), (4, .int v4)] [] (hp s) := by
  refine e_aload_n dX12_worked_194 0 rfl rfl (pc2 := 195) rfl ?_
  refine e_iload_n dX12_worked_195 2 rfl rfl (pc2 := 196) rfl ?_
  obtain ⟨s40, hy39, hf⟩ := bnd_s hf
  refine e_callVn (t_X12_tests v2 s hy39) dX12_worked_196 cv_X12_276 rfl so_101 rc_11 (by decide) (by first | exact Nat.le_of_ble_eq_true rfl | simp [rva_cat, vc_i, vc_r, vc_l, vc_n]) nn0 rfl (pc2 := 199) rfl ?_
  refine e_aload_n dX12_worked_199 0 rfl rfl (pc2 := 200) rfl ?_
  refine e_getR (r := 126) fl_X12_84 dX12_worked_200 so_101 (rs_101_35 s40.2.2) (by decide) (pc2 := 203) rfl ?_
  refine e_iload_n dX12_worked_203 2 rfl rfl (pc2 := 204) rfl ?_
  refine e_iload dX12_worked_204 4 rfl (pc2 := 206) rfl ?_
  obtain ⟨g42, hf⟩ := gd_some hf
  obtain ⟨s41, es41, hf⟩ := ltb_s hf
  refine e_iast dX12_worked_206 sa_126 (inb_v g42) (h2 := hp s41) (by rw [es41]; rfl) (pc2 := 207) rfl ?_
  refine e_goto (tgt := 329) dX12_worked_207 (by decide) ?_
  refine ev_sub [0, 1, 2, 3] rfl ?_
  exact t_X12_worked_j329 v1 v2 v3 s41 _ hk14 hf
def f_X12_worked_l268b (v1 : Int32) (v2 : Int32) (v3 : Int32) (v5 : Int32) (k268 : Int32 → Int32 → HS → Option (Int32 × HS)) (k300 : Int32 → Int32 → HS → Option (Int32 × HS)) (s : HS) : Option (Int32 × HS) :=
  (if v2 ≤ 0 then k300 v2 v5 s else gd (inb v2 7) ((if (s.1 133 v2.toNatClampNeg) = 1 then (if v5 = 0 then ltb (v2 + (-1)) fun x52 => k268 x52 1 s else ltb (v2 + (-1)) fun x51 => k268 x51 0 s) else k300 v2 v5 s)))
set_option maxRecDepth 20000 in
set_option maxHeartbeats 2000000 in
theorem t_X12_worked_l268b (v1 : Int32) (v2 : Int32) (v3 : Int32) (v5 : Int32) (s : HS) {x : Int32} {t : HS} (k268 : Int32 → Int32 → HS → Option (Int32 × HS)) (hk268 : ∀ (a2 : Int32) (a5 : Int32) (s : HS), k268 a2 a5 s = some (x, t) → Ev DDX12_worked miX12_worked NF (some (.int x)) NF (hp t) 268 NF [(0, .ref 101), (1, .int v1), (2, .int a2), (3, .int v3), (5, .int a5)] [] (hp s)) (k300 : Int32 → Int32 → HS → Option (Int32 × HS)) (hk300 : ∀ (a2 : Int32) (a5 : Int32) (s : HS), k300 a2 a5 s = some (x, t) → Ev DDX12_worked miX12_worked NF (some (.int x)) NF (hp t) 300 NF [(0, .ref 101), (1, .int v1), (2, .int a2), (3, .int v3), (5, .int a5)] [] (hp s)) (hf : f_X12_worked_l268b v1 v2 v3 v5 k268 k300 s = some (x, t)) : Ev DDX12_worked miX12_worked NF (some (.int x)) NF (hp t) 268 NF [(0, .ref 101), (1, .int v1), (2, .int v2), (3, .int v3), (5, .int v5)] [] (hp s) := by
  refine e_iload_n dX12_worked_268 2 rfl rfl (pc2 := 269) rfl ?_
  refine e_if_le (tgt := 300) dX12_worked_269 (by decide) (pc2 := 272) rfl (fun c47 => ?_) (fun c47 => ?_)
  · have hf := if_t c47 hf
    exact hk300 v2 v5 s hf
  · have hf := if_f c47 hf
    refine e_aload_n dX12_worked_272 0 rfl rfl (pc2 := 273) rfl ?_
    refine e_getR (r := 133) fl_X12_105 dX12_worked_273 so_101 (rs_101_42 s.2.2) (by decide) (pc2 := 276) rfl ?_
    refine e_iload_n dX12_worked_276 2 rfl rfl (pc2 := 277) rfl ?_
    obtain ⟨g48, hf⟩ := gd_some hf
    refine e_iald dX12_worked_277 sa_133 (inb_v g48) (pc2 := 278) rfl ?_
    refine e_iconst (x := 1) dX12_worked_278 (by decide) (pc2 := 279) rfl ?_
    refine e_icmp_ne (tgt := 300) dX12_worked_279 (by decide) (pc2 := 282) rfl (fun c49 => ?_) (fun c49 => ?_)
    · have hf := if_f c49 hf
      exact hk300 v2 v5 s hf
    · have hf := if_t c49 hf
      refine e_iload dX12_worked_282 4 rfl (pc2 := 284) rfl ?_
      refine e_if_ne (tgt := 291) dX12_worked_284 (by decide) (pc2 := 287) rfl (fun c50 => ?_) (fun c50 => ?_)
      · have hf := if_f c50 hf
        refine e_iconst (x := 0) dX12_worked_291 (by decide) (pc2 := 292) rfl ?_
        refine e_istore dX12_worked_292 (by decide) rfl (ls' := [(0, .ref 101), (1, .int v1), (2, .int v2), (3, .int v3), (5, .int 0)]) [1, 2, 3, 4, 0] rfl (pc2 := 294) rfl ?_
        obtain ⟨x51, ex51, hf⟩ := ltb_s hf
        refine e_iinc dX12_worked_294 2 rfl (c9 := (-1)) (by decide) ex51.symm (by decide) (ls' := [(0, .ref 101), (1, .int v1), (2, .int x51), (3, .int v3), (5, .int 0)]) [1, 2, 0, 3, 4] rfl (pc2 := 297) rfl ?_
        refine e_goto (tgt := 268) dX12_worked_297 (by decide) ?_
        exact hk268 x51 0 s hf
      · have hf := if_t c50 hf
        refine e_iconst (x := 1) dX12_worked_287 (by decide) (pc2 := 288) rfl ?_
        refine e_goto (tgt := 292) dX12_worked_288 (by decide) ?_
        refine e_istore dX12_worked_292 (by decide) rfl (ls' := [(0, .ref 101), (1, .int v1), (2, .int v2), (3, .int v3), (5, .int 1)]) [1, 2, 3, 4, 0] rfl (pc2 := 294) rfl ?_
        obtain ⟨x52, ex52, hf⟩ := ltb_s hf
        refine e_iinc dX12_worked_294 2 rfl (c9 := (-1)) (by decide) ex52.symm (by decide) (ls' := [(0, .ref 101), (1, .int v1), (2, .int x52), (3, .int v3), (5, .int 1)]) [1, 2, 0, 3, 4] rfl (pc2 := 297) rfl ?_
        refine e_goto (tgt := 268) dX12_worked_297 (by decide) ?_
        exact hk268 x52 1 s hf
def f_X12_worked_l268 (v1 : Int32) (v3 : Int32) (k300 : Int32 → Int32 → HS → Option (Int32 × HS)) : Nat → Int32 → Int32 → HS → Option (Int32 × HS)
  | 0, _, _, _ => none
  | n + 1, v2, v5, s => f_X12_worked_l268b v1 v2 v3 v5 (f_X12_worked_l268 v1 v3 k300 n) k300 s
set_option maxRecDepth 20000 in
set_option maxHeartbeats 2000000 in
theorem t_X12_worked_l268 (v1 : Int32) (v3 : Int32) {x : Int32} {t : HS} (k300 : Int32 → Int32 → HS → Option (Int32 × HS)) (hk300 : ∀ (a2 : Int32) (a5 : Int32) (s : HS), k300 a2 a5 s = some (x, t) → Ev DDX12_worked miX12_worked NF (some (.int x)) NF (hp t) 300 NF [(0, .ref 101), (1, .int v1), (2, .int a2), (3, .int v3), (5, .int a5)] [] (hp s)) : ∀ (n : Nat) (v2 : Int32) (v5 : Int32) (s : HS), f_X12_worked_l268 v1 v3 k300 n v2 v5 s = some (x, t) → Ev DDX12_worked miX12_worked NF (some (.int x)) NF (hp t) 268 NF [(0, .ref 101), (1, .int v1), (2, .int v2), (3, .int v3), (5, .int v5)] [] (hp s) := by
  intro n
  induction n with
  | zero =>
    intro v2 v5 s hf
    have hf : none = some (x, t) := hf
    cases hf
  | succ n ih =>
    intro v2 v5 s hf
    exact t_X12_worked_l268b v1 v2 v3 v5  s _ ih _ hk300 hf
def f_X12_worked_j300 (v1 : Int32) (v2 : Int32) (v3 : Int32) (v5 : Int32) (k14 : Int32 → Int32 → HS → Option (Int32 × HS)) (s : HS) : Option (Int32 × HS) :=
  gd (inb v2 7) ((if (s.1 132 v2.toNatClampNeg) = 0 then gd (inb v2 7) (ltb (sI s 131 (v2.toNatClampNeg) v5) fun s61 => f_X12_worked_j329 v1 v2 v3 k14 s61) else gd (inb v2 7) (gd (inb v2 7) (ltb (sI s 131 (v2.toNatClampNeg) ((s.1 131 v2.toNatClampNeg) * v5)) fun s59 => f_X12_worked_j329 v1 v2 v3 k14 s59))))
set_option maxRecDepth 20000 in
set_option maxHeartbeats 2000000 in
theorem t_X12_worked_j300 (v1 : Int32) (v2 : Int32) (v3 : Int32) (v5 : Int32) (s : HS) {x : Int32} {t : HS} (k14 : Int32 → Int32 → HS → Option (Int32 × HS)) (hk14 : ∀ (a2 : Int32) (a3 : Int32) (s : HS), k14 a2 a3 s = some (x, t) → Ev DDX12_worked miX12_worked NF (some (.int x)) NF (hp t) 14 NF [(0, .ref 101), (1, .int v1), (2, .int a2), (3, .int a3)] [] (hp s)) (hf : f_X12_worked_j300 v1 v2 v3 v5 k14 s = some (x, t)) : Ev DDX12_worked miX12_worked NF (some (.int x)) NF (hp t) 300 NF [(0, .ref 101), (1, .int v1), (2, .int v2), (3, .int v3), (5, .int v5)] [] (hp s) := by
  refine e_aload_n dX12_worked_300 0 rfl rfl (pc2 := 301) rfl ?_
  refine e_getR (r := 131) fl_X12_99 dX12_worked_301 so_101 (rs_101_40 s.2.2) (by decide) (pc2 := 304) rfl ?_
  refine e_iload_n dX12_worked_304 2 rfl rfl (pc2 := 305) rfl ?_
  refine e_aload_n dX12_worked_305 0 rfl rfl (pc2 := 306) rfl ?_
  refine e_getR (r := 132) fl_X12_102 dX12_worked_306 so_101 (rs_101_41 s.2.2) (by decide) (pc2 := 309) rfl ?_
  refine e_iload_n dX12_worked_309 2 rfl rfl (pc2 := 310) rfl ?_
  obtain ⟨g56, hf⟩ := gd_some hf
  refine e_iald dX12_worked_310 sa_132 (inb_v g56) (pc2 := 311) rfl ?_
  refine e_if_ne (tgt := 319) dX12_worked_311 (by decide) (pc2 := 314) rfl (fun c57 => ?_) (fun c57 => ?_)
  · have hf := if_f c57 hf
    refine e_aload_n dX12_worked_319 0 rfl rfl (pc2 := 320) rfl ?_
    refine e_getR (r := 131) fl_X12_99 dX12_worked_320 so_101 (rs_101_40 s.2.2) (by decide) (pc2 := 323) rfl ?_
    refine e_iload_n dX12_worked_323 2 rfl rfl (pc2 := 324) rfl ?_
    obtain ⟨g58, hf⟩ := gd_some hf
    refine e_iald dX12_worked_324 sa_131 (inb_v g58) (pc2 := 325) rfl ?_
    refine e_iload dX12_worked_325 4 rfl (pc2 := 327) rfl ?_
    refine e_imul dX12_worked_327 (pc2 := 328) rfl ?_
    obtain ⟨g60, hf⟩ := gd_some hf
    obtain ⟨s59, es59, hf⟩ := ltb_s hf
    refine e_iast dX12_worked_328 sa_131 (inb_v g60) (h2 := hp s59) (by rw [es59]; rfl) (pc2 := 329) rfl ?_
    refine ev_sub [0, 1, 2, 3] rfl ?_
    exact t_X12_worked_j329 v1 v2 v3 s59 _ hk14 hf
  · have hf := if_t c57 hf
    refine e_iload dX12_worked_314 4 rfl (pc2 := 316) rfl ?_
    refine e_goto (tgt := 328) dX12_worked_316 (by decide) ?_
    obtain ⟨g62, hf⟩ := gd_some hf
    obtain ⟨s61, es61, hf⟩ := ltb_s hf
    refine e_iast dX12_worked_328 sa_131 (inb_v g62) (h2 := hp s61) (by rw [es61]; rfl) (pc2 := 329) rfl ?_
    refine ev_sub [0, 1, 2, 3] rfl ?_
    exact t_X12_worked_j329 v1 v2 v3 s61 _ hk14 hf
def f_X12_worked_j243 (v1 : Int32) (v2 : Int32) (v3 : Int32) (v4 : Int32) (w0 : Int32) (k14 : Int32 → Int32 → HS → Option (Int32 × HS)) (s : HS) : Option (Int32 × HS) :=
  (if v4 = 29 then bnd (f_X12_tests v2 s) fun s64 => gd (inb v2 7) (ltb (s64.1 125 v2.toNatClampNeg) fun x66 => ltb (v2 + (-1)) fun x67 => f_X12_worked_l268 v1 v3 (fun v68 v69 s70 => f_X12_worked_j300 v1 v68 v3 v69 k14 s70) FU x67 x66 s64) else f_X12_worked_l268 v1 v3 (fun v53 v54 s55 => f_X12_worked_j300 v1 v53 v3 v54 k14 s55) FU v2 w0 s)
set_option maxRecDepth 20000 in
set_option maxHeartbeats 2000000 in
theorem t_X12_worked_j243 (v1 : Int32) (v2 : Int32) (v3 : Int32) (v4 : Int32) (w0 : Int32) (s : HS) {x : Int32} {t : HS} (k14 : Int32 → Int32 → HS → Option (Int32 × HS)) (hk14 : ∀ (a2 : Int32) (a3 : Int32) (s : HS), k14 a2 a3 s = some (x, t) → Ev DDX12_worked miX12_worked NF (some (.int x)) NF (hp t) 14 NF [(0, .ref 101), (1, .int v1), (2, .int a2), (3, .int a3)] [] (hp s)) (hf : f_X12_worked_j243 v1 v2 v3 v4 w0 k14 s = some (x, t)) : Ev DDX12_worked miX12_worked NF (some (.int x)) NF (hp t) 243 NF [(0, .ref 101), (1, .int v1), (2, .int v2), (3, .int v3), (4, .int v4)] [.int w0] (hp s) := by
  refine e_istore dX12_worked_243 (by decide) rfl (ls' := [(0, .ref 101), (1, .int v1), (2, .int v2), (3, .int v3), (4, .int v4), (5, .int w0)]) [1, 2, 3, 4, 5, 0] rfl (pc2 := 245) rfl ?_
  refine e_iload dX12_worked_245 4 rfl (pc2 := 247) rfl ?_
  refine e_bipush (x := 29) dX12_worked_247 (by decide) (pc2 := 249) rfl ?_
  refine e_icmp_ne (tgt := 268) dX12_worked_249 (by decide) (pc2 := 252) rfl (fun c46 => ?_) (fun c46 => ?_)
  · have hf := if_f c46 hf
    refine ev_sub [0, 1, 2, 3, 5] rfl ?_
    refine t_X12_worked_l268 v1 v3 _ ?_ FU v2 w0 s hf
    · intro v53 v54 s55 hf
      exact t_X12_worked_j300 v1 v53 v3 v54 s55 _ hk14 hf
  · have hf := if_t c46 hf
    refine e_aload_n dX12_worked_252 0 rfl rfl (pc2 := 253) rfl ?_
    refine e_iload_n dX12_worked_253 2 rfl rfl (pc2 := 254) rfl ?_
    obtain ⟨s64, hy63, hf⟩ := bnd_s hf
    refine e_callVn (t_X12_tests v2 s hy63) dX12_worked_254 cv_X12_276 rfl so_101 rc_11 (by decide) (by first | exact Nat.le_of_ble_eq_true rfl | simp [rva_cat, vc_i, vc_r, vc_l, vc_n]) nn0 rfl (pc2 := 257) rfl ?_
    refine e_aload_n dX12_worked_257 0 rfl rfl (pc2 := 258) rfl ?_
    refine e_getR (r := 125) fl_X12_81 dX12_worked_258 so_101 (rs_101_34 s64.2.2) (by decide) (pc2 := 261) rfl ?_
    refine e_iload_n dX12_worked_261 2 rfl rfl (pc2 := 262) rfl ?_
    obtain ⟨g65, hf⟩ := gd_some hf
    refine e_iald dX12_worked_262 sa_125 (inb_v g65) (pc2 := 263) rfl ?_
    obtain ⟨x66, ex66, hf⟩ := ltb_s hf
    refine e_istore dX12_worked_263 (by decide) ex66.symm (ls' := [(0, .ref 101), (1, .int v1), (2, .int v2), (3, .int v3), (5, .int x66)]) [1, 2, 3, 4, 0] rfl (pc2 := 265) rfl ?_
    obtain ⟨x67, ex67, hf⟩ := ltb_s hf
    refine e_iinc dX12_worked_265 2 rfl (c9 := (-1)) (by decide) ex67.symm (by decide) (ls' := [(0, .ref 101), (1, .int v1), (2, .int x67), (3, .int v3), (5, .int x66)]) [1, 2, 0, 3, 4] rfl (pc2 := 268) rfl ?_
    refine t_X12_worked_l268 v1 v3 _ ?_ FU x67 x66 s64 hf
    · intro v68 v69 s70 hf
      exact t_X12_worked_j300 v1 v68 v3 v69 s70 _ hk14 hf
def f_X12_worked_j329_11 (v1 : Int32) (v2 : Int32) (v3 : Int32) (k14 : Int32 → Int32 → HS → Option (Int32 × HS)) (s : HS) : Option (Int32 × HS) :=
  ltb (v3 + 1) fun x74 => k14 v2 x74 s
set_option maxRecDepth 20000 in
set_option maxHeartbeats 2000000 in
theorem t_X12_worked_j329_11 (v1 : Int32) (v2 : Int32) (v3 : Int32) (s : HS) {x : Int32} {t : HS} (k14 : Int32 → Int32 → HS → Option (Int32 × HS)) (hk14 : ∀ (a2 : Int32) (a3 : Int32) (s : HS), k14 a2 a3 s = some (x, t) → Ev DDX12_worked miX12_worked NF (some (.int x)) NF (hp t) 14 NF [(0, .ref 101), (1, .int v1), (2, .int a2), (3, .int a3)] [] (hp s)) (hf : f_X12_worked_j329_11 v1 v2 v3 k14 s = some (x, t)) : Ev DDX12_worked miX12_worked NF (some (.int x)) NF (hp t) 329 NF [(0, .ref 101), (1, .int v1), (2, .int v2), (3, .int v3)] [] (hp s) := by
  obtain ⟨x74, ex74, hf⟩ := ltb_s hf
  refine e_iinc dX12_worked_329 3 rfl (c9 := 1) (by decide) ex74.symm (by decide) (ls' := [(0, .ref 101), (1, .int v1), (2, .int v2), (3, .int x74)]) [1, 2, 3, 0] rfl (pc2 := 332) rfl ?_
  refine e_goto (tgt := 14) dX12_worked_332 (by decide) ?_
  exact hk14 v2 x74 s hf
def f_X12_worked_l14b (v1 : Int32) (v2 : Int32) (v3 : Int32) (k14 : Int32 → Int32 → HS → Option (Int32 × HS)) (k335 : HS → Option (Int32 × HS)) (s : HS) : Option (Int32 × HS) :=
  gd (inb v1 2) ((if (s.1 121 v1.toNatClampNeg) ≤ v3 then k335 s else gd (inb v3 2000) (ltb (s.1 122 v3.toNatClampNeg) fun x8 => (if x8 = 28 then f_X12_worked_j46 v1 v2 v3 x8 k14 s else (if x8 = 30 then f_X12_worked_j46 v1 v2 v3 x8 k14 s else (if x8 = 20 then f_X12_worked_j89 v1 v2 v3 x8 k14 s else (if x8 = 21 then f_X12_worked_j89 v1 v2 v3 x8 k14 s else (if x8 = 22 then gd (inb v2 7) (ltb (sI s 132 (v2.toNatClampNeg) x8) fun s72 => f_X12_worked_j329_11 v1 v2 v3 k14 s72) else (if x8 = 24 then f_X12_worked_j137 v1 v2 v3 x8 k14 s else (if x8 = 25 then f_X12_worked_j137 v1 v2 v3 x8 k14 s else (if x8 = 26 then f_X12_worked_j194 v1 v2 v3 x8 k14 s else (if x8 = 27 then f_X12_worked_j194 v1 v2 v3 x8 k14 s else (if x8 < 100 then (if 20 ≤ x8 then f_X12_worked_j243 v1 v2 v3 x8 0 k14 s else gd (inb x8 20) (f_X12_worked_j243 v1 v2 v3 x8 (s.1 134 x8.toNatClampNeg) k14 s)) else f_X12_worked_j243 v1 v2 v3 x8 (x8 - 100) k14 s)))))))))))))
set_option maxRecDepth 20000 in
set_option maxHeartbeats 2000000 in
theorem t_X12_worked_l14b (v1 : Int32) (v2 : Int32) (v3 : Int32) (s : HS) {x : Int32} {t : HS} (k14 : Int32 → Int32 → HS → Option (Int32 × HS)) (hk14 : ∀ (a2 : Int32) (a3 : Int32) (s : HS), k14 a2 a3 s = some (x, t) → Ev DDX12_worked miX12_worked NF (some (.int x)) NF (hp t) 14 NF [(0, .ref 101), (1, .int v1), (2, .int a2), (3, .int a3)] [] (hp s)) (k335 : HS → Option (Int32 × HS)) (hk335 : ∀ (s : HS), k335 s = some (x, t) → Ev DDX12_worked miX12_worked NF (some (.int x)) NF (hp t) 335 NF [(0, .ref 101)] [] (hp s)) (hf : f_X12_worked_l14b v1 v2 v3 k14 k335 s = some (x, t)) : Ev DDX12_worked miX12_worked NF (some (.int x)) NF (hp t) 14 NF [(0, .ref 101), (1, .int v1), (2, .int v2), (3, .int v3)] [] (hp s) := by
  refine e_iload_n dX12_worked_14 3 rfl rfl (pc2 := 15) rfl ?_
  refine e_aload_n dX12_worked_15 0 rfl rfl (pc2 := 16) rfl ?_
  refine e_getR (r := 121) fl_X12_68 dX12_worked_16 so_101 (rs_101_28 s.2.2) (by decide) (pc2 := 19) rfl ?_
  refine e_iload_n dX12_worked_19 1 rfl rfl (pc2 := 20) rfl ?_
  obtain ⟨g5, hf⟩ := gd_some hf
  refine e_iald dX12_worked_20 sa_121 (inb_v g5) (pc2 := 21) rfl ?_
  refine e_icmp_ge (tgt := 335) dX12_worked_21 (by decide) (pc2 := 24) rfl (fun c6 => ?_) (fun c6 => ?_)
  · have hf := if_t c6 hf
    refine ev_sub [0] rfl ?_
    exact hk335 s hf
  · have hf := if_f c6 hf
    refine e_aload_n dX12_worked_24 0 rfl rfl (pc2 := 25) rfl ?_
    refine e_getR (r := 122) fl_X12_71 dX12_worked_25 so_101 (rs_101_29 s.2.2) (by decide) (pc2 := 28) rfl ?_
    refine e_iload_n dX12_worked_28 3 rfl rfl (pc2 := 29) rfl ?_
    obtain ⟨g7, hf⟩ := gd_some hf
    refine e_iald dX12_worked_29 sa_122 (inb_v g7) (pc2 := 30) rfl ?_
    obtain ⟨x8, ex8, hf⟩ := ltb_s hf
    refine e_istore dX12_worked_30 (by decide) ex8.symm (ls' := [(0, .ref 101), (1, .int v1), (2, .int v2), (3, .int v3), (4, .int x8)]) [1, 2, 3, 4, 0] rfl (pc2 := 32) rfl ?_
    refine e_iload dX12_worked_32 4 rfl (pc2 := 34) rfl ?_
    refine e_bipush (x := 28) dX12_worked_34 (by decide) (pc2 := 36) rfl ?_
    refine e_icmp_eq (tgt := 46) dX12_worked_36 (by decide) (pc2 := 39) rfl (fun c9 => ?_) (fun c9 => ?_)
    · have hf := if_t c9 hf
      exact t_X12_worked_j46 v1 v2 v3 x8 s _ hk14 hf
    · have hf := if_f c9 hf
      refine e_iload dX12_worked_39 4 rfl (pc2 := 41) rfl ?_
      refine e_bipush (x := 30) dX12_worked_41 (by decide) (pc2 := 43) rfl ?_
      refine e_icmp_ne (tgt := 75) dX12_worked_43 (by decide) (pc2 := 46) rfl (fun c17 => ?_) (fun c17 => ?_)
      · have hf := if_f c17 hf
        refine e_iload dX12_worked_75 4 rfl (pc2 := 77) rfl ?_
        refine e_bipush (x := 20) dX12_worked_77 (by decide) (pc2 := 79) rfl ?_
        refine e_icmp_eq (tgt := 89) dX12_worked_79 (by decide) (pc2 := 82) rfl (fun c18 => ?_) (fun c18 => ?_)
        · have hf := if_t c18 hf
          exact t_X12_worked_j89 v1 v2 v3 x8 s _ hk14 hf
        · have hf := if_f c18 hf
          refine e_iload dX12_worked_82 4 rfl (pc2 := 84) rfl ?_
          refine e_bipush (x := 21) dX12_worked_84 (by decide) (pc2 := 86) rfl ?_
          refine e_icmp_ne (tgt := 105) dX12_worked_86 (by decide) (pc2 := 89) rfl (fun c23 => ?_) (fun c23 => ?_)
          · have hf := if_f c23 hf
            refine e_iload dX12_worked_105 4 rfl (pc2 := 107) rfl ?_
            refine e_bipush (x := 22) dX12_worked_107 (by decide) (pc2 := 109) rfl ?_
            refine e_icmp_ne (tgt := 123) dX12_worked_109 (by decide) (pc2 := 112) rfl (fun c24 => ?_) (fun c24 => ?_)
            · have hf := if_f c24 hf
              refine e_iload dX12_worked_123 4 rfl (pc2 := 125) rfl ?_
              refine e_bipush (x := 24) dX12_worked_125 (by decide) (pc2 := 127) rfl ?_
              refine e_icmp_eq (tgt := 137) dX12_worked_127 (by decide) (pc2 := 130) rfl (fun c25 => ?_) (fun c25 => ?_)
              · have hf := if_t c25 hf
                exact t_X12_worked_j137 v1 v2 v3 x8 s _ hk14 hf
              · have hf := if_f c25 hf
                refine e_iload dX12_worked_130 4 rfl (pc2 := 132) rfl ?_
                refine e_bipush (x := 25) dX12_worked_132 (by decide) (pc2 := 134) rfl ?_
                refine e_icmp_ne (tgt := 180) dX12_worked_134 (by decide) (pc2 := 137) rfl (fun c37 => ?_) (fun c37 => ?_)
                · have hf := if_f c37 hf
                  refine e_iload dX12_worked_180 4 rfl (pc2 := 182) rfl ?_
                  refine e_bipush (x := 26) dX12_worked_182 (by decide) (pc2 := 184) rfl ?_
                  refine e_icmp_eq (tgt := 194) dX12_worked_184 (by decide) (pc2 := 187) rfl (fun c38 => ?_) (fun c38 => ?_)
                  · have hf := if_t c38 hf
                    exact t_X12_worked_j194 v1 v2 v3 x8 s _ hk14 hf
                  · have hf := if_f c38 hf
                    refine e_iload dX12_worked_187 4 rfl (pc2 := 189) rfl ?_
                    refine e_bipush (x := 27) dX12_worked_189 (by decide) (pc2 := 191) rfl ?_
                    refine e_icmp_ne (tgt := 210) dX12_worked_191 (by decide) (pc2 := 194) rfl (fun c43 => ?_) (fun c43 => ?_)
                    · have hf := if_f c43 hf
                      refine e_iload dX12_worked_210 4 rfl (pc2 := 212) rfl ?_
                      refine e_bipush (x := 100) dX12_worked_212 (by decide) (pc2 := 214) rfl ?_
                      refine e_icmp_lt (tgt := 225) dX12_worked_214 (by decide) (pc2 := 217) rfl (fun c44 => ?_) (fun c44 => ?_)
                      · have hf := if_t c44 hf
                        refine e_iload dX12_worked_225 4 rfl (pc2 := 227) rfl ?_
                        refine e_bipush (x := 20) dX12_worked_227 (by decide) (pc2 := 229) rfl ?_
                        refine e_icmp_ge (tgt := 242) dX12_worked_229 (by decide) (pc2 := 232) rfl (fun c45 => ?_) (fun c45 => ?_)
                        · have hf := if_t c45 hf
                          refine e_iconst (x := 0) dX12_worked_242 (by decide) (pc2 := 243) rfl ?_
                          exact t_X12_worked_j243 v1 v2 v3 x8 0 s _ hk14 hf
                        · have hf := if_f c45 hf
                          refine e_aload_n dX12_worked_232 0 rfl rfl (pc2 := 233) rfl ?_
                          refine e_getR (r := 134) fl_X12_108 dX12_worked_233 so_101 (rs_101_43 s.2.2) (by decide) (pc2 := 236) rfl ?_
                          refine e_iload dX12_worked_236 4 rfl (pc2 := 238) rfl ?_
                          obtain ⟨g71, hf⟩ := gd_some hf
                          refine e_iald dX12_worked_238 sa_134 (inb_v g71) (pc2 := 239) rfl ?_
                          refine e_goto (tgt := 243) dX12_worked_239 (by decide) ?_
                          exact t_X12_worked_j243 v1 v2 v3 x8 (s.1 134 x8.toNatClampNeg) s _ hk14 hf
                      · have hf := if_f c44 hf
                        refine e_iload dX12_worked_217 4 rfl (pc2 := 219) rfl ?_
                        refine e_bipush (x := 100) dX12_worked_219 (by decide) (pc2 := 221) rfl ?_
                        refine e_isub dX12_worked_221 (pc2 := 222) rfl ?_
                        refine e_goto (tgt := 243) dX12_worked_222 (by decide) ?_
                        exact t_X12_worked_j243 v1 v2 v3 x8 (x8 - 100) s _ hk14 hf
                    · have hf := if_t c43 hf
                      exact t_X12_worked_j194 v1 v2 v3 x8 s _ hk14 hf
                · have hf := if_t c37 hf
                  exact t_X12_worked_j137 v1 v2 v3 x8 s _ hk14 hf
            · have hf := if_t c24 hf
              refine e_aload_n dX12_worked_112 0 rfl rfl (pc2 := 113) rfl ?_
              refine e_getR (r := 132) fl_X12_102 dX12_worked_113 so_101 (rs_101_41 s.2.2) (by decide) (pc2 := 116) rfl ?_
              refine e_iload_n dX12_worked_116 2 rfl rfl (pc2 := 117) rfl ?_
              refine e_iload dX12_worked_117 4 rfl (pc2 := 119) rfl ?_
              obtain ⟨g73, hf⟩ := gd_some hf
              obtain ⟨s72, es72, hf⟩ := ltb_s hf
              refine e_iast dX12_worked_119 sa_132 (inb_v g73) (h2 := hp s72) (by rw [es72]; rfl) (pc2 := 120) rfl ?_
              refine e_goto (tgt := 329) dX12_worked_120 (by decide) ?_
              refine ev_sub [0, 1, 2, 3] rfl ?_
              exact t_X12_worked_j329_11 v1 v2 v3 s72 _ hk14 hf
          · have hf := if_t c23 hf
            exact t_X12_worked_j89 v1 v2 v3 x8 s _ hk14 hf
      · have hf := if_t c17 hf
        exact t_X12_worked_j46 v1 v2 v3 x8 s _ hk14 hf
def f_X12_worked_l14 (v1 : Int32) (k335 : HS → Option (Int32 × HS)) : Nat → Int32 → Int32 → HS → Option (Int32 × HS)
  | 0, _, _, _ => none
  | n + 1, v2, v3, s => f_X12_worked_l14b v1 v2 v3 (f_X12_worked_l14 v1 k335 n) k335 s
set_option maxRecDepth 20000 in
set_option maxHeartbeats 2000000 in
theorem t_X12_worked_l14 (v1 : Int32) {x : Int32} {t : HS} (k335 : HS → Option (Int32 × HS)) (hk335 : ∀ (s : HS), k335 s = some (x, t) → Ev DDX12_worked miX12_worked NF (some (.int x)) NF (hp t) 335 NF [(0, .ref 101)] [] (hp s)) : ∀ (n : Nat) (v2 : Int32) (v3 : Int32) (s : HS), f_X12_worked_l14 v1 k335 n v2 v3 s = some (x, t) → Ev DDX12_worked miX12_worked NF (some (.int x)) NF (hp t) 14 NF [(0, .ref 101), (1, .int v1), (2, .int v2), (3, .int v3)] [] (hp s) := by
  intro n
  induction n with
  | zero =>
    intro v2 v3 s hf
    have hf : none = some (x, t) := hf
    cases hf
  | succ n ih =>
    intro v2 v3 s hf
    exact t_X12_worked_l14b v1 v2 v3  s _ ih _ hk335 hf
def f_X12_worked (v1 : Int32) (s : HS) : Option (Int32 × HS) :=
  bnd (f_X12_opens 0 s) fun s2 => gd (inb v1 2) (ltb (s2.1 120 v1.toNatClampNeg) fun x4 => f_X12_worked_l14 v1 (fun s75 => bnd (f_X12_tests 0 s75) fun s77 => some (s77.1 125 0, s77)) FU 0 x4 s2)
set_option maxRecDepth 20000 in
set_option maxHeartbeats 2000000 in
theorem t_X12_worked (v1 : Int32) (s : HS) {x : Int32} {t : HS} (hf : f_X12_worked  v1 s = some (x, t)) : Mt DDX12_worked miX12_worked [.ref 101, .int v1] NF (hp s) (some (.int x)) NF (hp t) := by
  refine Mt.of (by decide +kernel) (Nat.le_refl _) (Nat.le_of_ble_eq_true rfl) ?_
  show Ev DDX12_worked miX12_worked NF (some (.int x)) NF (hp t) 0 NF [(0, .ref 101), (1, .int v1)] [] (hp s)
  unfold f_X12_worked at hf
  refine e_iconst (x := 0) dX12_worked_0 (by decide) (pc2 := 1) rfl ?_
  refine e_istore_n dX12_worked_1 rfl (by decide) rfl (ls' := [(0, .ref 101), (1, .int v1), (2, .int 0)]) [1, 2, 0] rfl (pc2 := 2) rfl ?_
  refine e_aload_n dX12_worked_2 0 rfl rfl (pc2 := 3) rfl ?_
  refine e_iconst (x := 0) dX12_worked_3 (by decide) (pc2 := 4) rfl ?_
  obtain ⟨s2, hy1, hf⟩ := bnd_s hf
  refine e_callVn (t_X12_opens 0 s hy1) dX12_worked_4 cv_X12_273 rfl so_101 rc_11 (by decide) (by first | exact Nat.le_of_ble_eq_true rfl | simp [rva_cat, vc_i, vc_r, vc_l, vc_n]) nn0 rfl (pc2 := 7) rfl ?_
  refine e_aload_n dX12_worked_7 0 rfl rfl (pc2 := 8) rfl ?_
  refine e_getR (r := 120) fl_X12_65 dX12_worked_8 so_101 (rs_101_27 s2.2.2) (by decide) (pc2 := 11) rfl ?_
  refine e_iload_n dX12_worked_11 1 rfl rfl (pc2 := 12) rfl ?_
  obtain ⟨g3, hf⟩ := gd_some hf
  refine e_iald dX12_worked_12 sa_120 (inb_v g3) (pc2 := 13) rfl ?_
  obtain ⟨x4, ex4, hf⟩ := ltb_s hf
  refine e_istore_n dX12_worked_13 rfl (by decide) ex4.symm (ls' := [(0, .ref 101), (1, .int v1), (2, .int 0), (3, .int x4)]) [1, 2, 3, 0] rfl (pc2 := 14) rfl ?_
  refine t_X12_worked_l14 v1 _ ?_ FU 0 x4 s2 hf
  · intro s75 hf
    refine e_aload_n dX12_worked_335 0 rfl rfl (pc2 := 336) rfl ?_
    refine e_iconst (x := 0) dX12_worked_336 (by decide) (pc2 := 337) rfl ?_
    obtain ⟨s77, hy76, hf⟩ := bnd_s hf
    refine e_callVn (t_X12_tests 0 s75 hy76) dX12_worked_337 cv_X12_276 rfl so_101 rc_11 (by decide) (by first | exact Nat.le_of_ble_eq_true rfl | simp [rva_cat, vc_i, vc_r, vc_l, vc_n]) nn0 rfl (pc2 := 340) rfl ?_
    refine e_aload_n dX12_worked_340 0 rfl rfl (pc2 := 341) rfl ?_
    refine e_getR (r := 125) fl_X12_81 dX12_worked_341 so_101 (rs_101_34 s77.2.2) (by decide) (pc2 := 344) rfl ?_
    refine e_iconst (x := 0) dX12_worked_344 (by decide) (pc2 := 345) rfl ?_
    refine e_iald dX12_worked_345 sa_125 (inb_v (by decide)) (pc2 := 346) rfl ?_
    cases hf
    exact e_iret rfl dX12_worked_346
